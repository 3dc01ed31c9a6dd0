set_option maxHeartbeats 4000000 in
set_option maxRecDepth 100000 in
theorem s_X0_forget (l : Launch) (dC : Nat → ClassId) (dI : Nat → Nat → Nat) (cy : Nat → ClassId) (sq : Nat → Nat) (a_this : Nat) (a_this_street : Nat) (a_this_state : Nat) (a_this_told : Nat) (a_this_trusts : Nat) (x_this_known : Int32)  : k_Met l yX0_forget cX0_forget 1 none { frames := 0, cells := 0, slots := 0, locals := 0 } dC dI cy sq [.ref a_this] [(wo_0_rrrri a_this a_this_street a_this_state a_this_told a_this_trusts x_this_known)] (k_Qv dC dI (fun (_ : Unit) => True) (fun _ : Unit => [(wo_0_rrrri a_this a_this_street a_this_state a_this_told a_this_trusts 0)])) := by
  refine k_ofW2 (by decide +kernel) (Nat.le_of_ble_eq_true rfl) ?_
  intro p e s m below meth c A ls H locs args Q hQ C0 hZ hr hlk hin hP hD hA hS hl
  have C0 : k_cx p s m args c cX0_forget 1 RX0 dC dI cy sq := C0
  have hx := C0.1
  have hb := C0.2.1
  have hl : lv_has ls 1 [(0, .ref a_this)] := hl
  refine lv_aload_n hx hb dX0_forget_0 rfl (lv_at hl 0 rfl) ?_
  refine lv_iconst (v := 0) hx hb dX0_forget_1 rfl ?_
  refine k_put C0 fp_X0_25 hP hD hS 0 rfl rfl rfl (Nat.le_of_ble_eq_true rfl) dX0_forget_2 (fun H locs hP hD hS => ?_)
  replace hP : va_P (dC, dI) vwCl [(wo_0_rrrri a_this a_this_street a_this_state a_this_told a_this_trusts 0)] H := hP
  replace hD := k_D hP hD
  subst hQ; exact k_vret hx hb hr hlk () hS True.intro hP hD (Nat.le_of_ble_eq_true rfl) (Nat.le_of_ble_eq_true rfl) dX0_forget_5
set_option maxHeartbeats 4000000 in
set_option maxRecDepth 100000 in
theorem s_X6_copy (l : Launch) (dC : Nat → ClassId) (dI : Nat → Nat → Nat) (cy : Nat → ClassId) (sq : Nat → Nat) (a_this : Nat) (x_this_day : Int32) (x_this_rule : Int32) (x_this_green : Int32) (a_this_trusts : Nat) (g_this_trusts : Nat → Int32) (a_arg0 : Nat) (x_arg0_day : Int32) (x_arg0_rule : Int32) (x_arg0_green : Int32) (a_arg0_trusts : Nat) (g_arg0_trusts : Nat → Int32)  : k_Met l yX6_copy cX6_copy 2 none { frames := 1, cells := 0, slots := 0, locals := 64 } dC dI cy sq [.ref a_this, .ref a_arg0] [(wo_6_iiir a_this x_this_day x_this_rule x_this_green a_this_trusts), (wo_6_iiir a_arg0 x_arg0_day x_arg0_rule x_arg0_green a_arg0_trusts), (wi_0_6_0 a_arg0_trusts cy g_arg0_trusts), (wi_0_6_0 a_this_trusts cy g_this_trusts)] (k_Qv dC dI (fun (n0 : (Nat → Int32)) => (F_X6_copy (lf_A g_this_trusts) (lf_A g_arg0_trusts) = ((lf_A n0)))) (fun n0 : (Nat → Int32) => [(wo_6_iiir a_this x_arg0_day x_arg0_rule x_arg0_green a_this_trusts), (wo_6_iiir a_arg0 x_arg0_day x_arg0_rule x_arg0_green a_arg0_trusts), (wi_0_6_0 a_arg0_trusts cy g_arg0_trusts), (wi_0_6_0 a_this_trusts cy n0)])) := by
  refine k_ofW2 (by decide +kernel) (Nat.le_of_ble_eq_true rfl) ?_
  intro p e s m below meth c A ls H locs args Q hQ C0 hZ hr hlk hin hP hD hA hS hl
  have C0 : k_cx p s m args c cX6_copy 2 RX6 dC dI cy sq := C0
  have hx := C0.1
  have hb := C0.2.1
  have hl : lv_has ls 2 [(0, .ref a_this), (1, .ref a_arg0)] := hl
  obtain ⟨O, hO⟩ : ∃ o, o = F_X6_copy (lf_A g_this_trusts) (lf_A g_arg0_trusts) := ⟨_, rfl⟩
  have hq := hO
  unfold F_X6_copy at hq
  refine lv_aload_n hx hb dX6_copy_0 rfl (lv_at hl 0 rfl) ?_
  refine lv_aload_n hx hb dX6_copy_1 rfl (lv_at hl 1 rfl) ?_
  refine k_get C0 fg_X6_9 hP 1 rfl rfl dX6_copy_2 ?_
  refine k_put C0 fp_X6_9 hP hD hS 0 rfl rfl rfl (Nat.le_of_ble_eq_true rfl) dX6_copy_5 (fun H locs hP hD hS => ?_)
  replace hP : va_P (dC, dI) vwCl [(wo_6_iiir a_this x_arg0_day x_this_rule x_this_green a_this_trusts), (wo_6_iiir a_arg0 x_arg0_day x_arg0_rule x_arg0_green a_arg0_trusts), (wi_0_6_0 a_arg0_trusts cy g_arg0_trusts), (wi_0_6_0 a_this_trusts cy g_this_trusts)] H := hP
  replace hD := k_D hP hD
  refine lv_aload_n hx hb dX6_copy_8 rfl (lv_at hl 0 rfl) ?_
  refine lv_aload_n hx hb dX6_copy_9 rfl (lv_at hl 1 rfl) ?_
  refine k_get C0 fg_X6_15 hP 1 rfl rfl dX6_copy_10 ?_
  refine k_put C0 fp_X6_15 hP hD hS 0 rfl rfl rfl (Nat.le_of_ble_eq_true rfl) dX6_copy_13 (fun H locs hP hD hS => ?_)
  replace hP : va_P (dC, dI) vwCl [(wo_6_iiir a_this x_arg0_day x_arg0_rule x_this_green a_this_trusts), (wo_6_iiir a_arg0 x_arg0_day x_arg0_rule x_arg0_green a_arg0_trusts), (wi_0_6_0 a_arg0_trusts cy g_arg0_trusts), (wi_0_6_0 a_this_trusts cy g_this_trusts)] H := hP
  replace hD := k_D hP hD
  refine lv_aload_n hx hb dX6_copy_16 rfl (lv_at hl 0 rfl) ?_
  refine lv_aload_n hx hb dX6_copy_17 rfl (lv_at hl 1 rfl) ?_
  refine k_get C0 fg_X6_18 hP 1 rfl rfl dX6_copy_18 ?_
  refine k_put C0 fp_X6_18 hP hD hS 0 rfl rfl rfl (Nat.le_of_ble_eq_true rfl) dX6_copy_21 (fun H locs hP hD hS => ?_)
  replace hP : va_P (dC, dI) vwCl [(wo_6_iiir a_this x_arg0_day x_arg0_rule x_arg0_green a_this_trusts), (wo_6_iiir a_arg0 x_arg0_day x_arg0_rule x_arg0_green a_arg0_trusts), (wi_0_6_0 a_arg0_trusts cy g_arg0_trusts), (wi_0_6_0 a_this_trusts cy g_this_trusts)] H := hP
  replace hD := k_D hP hD
  refine lv_aload_n hx hb dX6_copy_24 rfl (lv_at hl 1 rfl) ?_
  refine k_get C0 fg_X6_21 hP 1 rfl rfl dX6_copy_25 ?_
  refine lv_iconst (v := 0) hx hb dX6_copy_28 rfl ?_
  refine lv_aload_n hx hb dX6_copy_29 rfl (lv_at hl 0 rfl) ?_
  refine k_get C0 fg_X6_21 hP 0 rfl rfl dX6_copy_30 ?_
  refine lv_iconst (v := 0) hx hb dX6_copy_33 rfl ?_
  refine lv_bipush (v := 6) hx hb dX6_copy_34 rfl ?_
  refine va_copyi hx hb (by rw [C0.2.2.1]; exact hl.1.symm) C0.2.2.2.1 (C0.2.2.2.2.1 _ wd511) (C0.2.2.2.2.1 _ wd512) (C0.2.2.2.2.1 _ wd513) (C0.2.2.2.2.1 _ wd514) C0.2.2.2.2.2.1 hP hD hS 2 3 0 0 rfl rfl rfl rfl rfl (ib_nn (ib_c 0 0 0 rfl) rfl) (ib_nn (ib_c 0 0 0 rfl) rfl) (ib_nn (ib_c 6 6 6 rfl) rfl) (ib_two_le 6 (ib_c 0 0 0 rfl) (ib_c 6 6 6 rfl) rfl) (ib_two_le 6 (ib_c 0 0 0 rfl) (ib_c 6 6 6 rfl) rfl) (fun _ _ => rfl) (Nat.le_of_ble_eq_true rfl) (Nat.le_of_ble_eq_true rfl) dX6_copy_36 (fun H locs hP hD hS => ?_)
  replace hP : va_P (dC, dI) vwCl [(wo_6_iiir a_this x_arg0_day x_arg0_rule x_arg0_green a_this_trusts), (wo_6_iiir a_arg0 x_arg0_day x_arg0_rule x_arg0_green a_arg0_trusts), (wi_0_6_0 a_arg0_trusts cy g_arg0_trusts), (wi_0_6_0 a_this_trusts cy (va_cpy g_arg0_trusts g_this_trusts (0 : Int32).toNatClampNeg (0 : Int32).toNatClampNeg (6 : Int32).toNatClampNeg))] H := hP
  replace hD := k_D hP hD
  generalize ef1 : va_cpy g_arg0_trusts g_this_trusts (0 : Int32).toNatClampNeg (0 : Int32).toNatClampNeg (6 : Int32).toNatClampNeg = f1 at hP hD
  have Ef1 := lf_cpe ef1 (lf_ra g_arg0_trusts) (lf_ra g_this_trusts) (lf_lc 0 (0 : Int) rfl) (lf_lc 0 (0 : Int) rfl) (lf_lc 6 (6 : Int) rfl)
  subst hQ; exact k_vret hx hb hr hlk f1 hS ((hO.symm.trans (by rw [lf_ua Ef1]; exact hq))) hP hD (Nat.le_of_ble_eq_true rfl) (Nat.le_of_ble_eq_true rfl) dX6_copy_39
set_option maxHeartbeats 4000000 in
set_option maxRecDepth 100000 in
theorem s_X3_within (l : Launch) (dC : Nat → ClassId) (dI : Nat → Nat → Nat) (cy : Nat → ClassId) (sq : Nat → Nat) (p0 : Int64)  : k_Met l yX3_within cX3_within 2 (some .int) { frames := 0, cells := 0, slots := 0, locals := 0 } dC dI cy sq [.long p0] [] (k_Qi dC dI (fun (r : Int32) (_ : Unit) => (F_X3_within (Int64.toInt p0) = ((Int32.toInt r)))) (fun _ : Unit => [])) := by
  refine k_ofW2 (by decide +kernel) (Nat.le_of_ble_eq_true rfl) ?_
  intro p e s m below meth c A ls H locs args Q hQ C0 hZ hr hlk hin hP hD hA hS hl
  have C0 : k_cx p s m args c cX3_within 2 RX3 dC dI cy sq := C0
  have hx := C0.1
  have hb := C0.2.1
  have hl : lv_has ls 2 [(0, .long p0)] := hl
  obtain ⟨O, hO⟩ : ∃ o, o = F_X3_within (Int64.toInt p0) := ⟨_, rfl⟩
  have hq := hO
  unfold F_X3_within at hq
  refine lv_lload_n hx hb dX3_within_0 rfl (lv_at hl 0 rfl) ?_
  refine lv_ldc2 hx hb C0.2.2.2.1 (C0.2.2.2.2.1 _ wd861) dX3_within_1 ?_
  refine W.lcmp hx hb dX3_within_4 ?_
  refine lv_topi (fun z1 ez1 => ?_)
  have h2 : ib z1 (-1) 1 := by rw [ez1]; exact ib_cmp _ _
  have Ez1 := lf_cmpe ez1 (lf_rl p0) (lf_ll 1000000 (1000000 : Int) rfl)
  refine lv_if_le (tgt := 11) hx hb dX3_within_5 rfl (fun c3 => ?_) (fun c3 => ?_)
  · replace hq := lf_pos hq (lf_le Ez1 (lf_lc 0 (0 : Int) rfl) c3)
    have h4 := ib_le h2 (ib_c 0 0 0 rfl) c3
    have h5 : ib z1 (-1) 0 := ib_w (-1) 0 h4.1 rfl
    refine lv_lload_n hx hb dX3_within_11 rfl (lv_at hl 0 rfl) ?_
    refine lv_ldc2 hx hb C0.2.2.2.1 (C0.2.2.2.2.1 _ wd863) dX3_within_12 ?_
    refine W.lcmp hx hb dX3_within_15 ?_
    refine lv_topi (fun z6 ez6 => ?_)
    have h7 : ib z6 (-1) 1 := by rw [ez6]; exact ib_cmp _ _
    have Ez6 := lf_cmpe ez6 (lf_rl p0) (lf_ll (-1000000) (-1000000 : Int) rfl)
    refine lv_if_ge (tgt := 24) hx hb dX3_within_16 rfl (fun c8 => ?_) (fun c8 => ?_)
    · replace hq := lf_pos hq (lf_le (lf_lc 0 (0 : Int) rfl) Ez6 c8)
      have h9 := ib_le (ib_c 0 0 0 rfl) h7 c8
      have h10 : ib z6 0 1 := ib_w 0 1 h9.2 rfl
      refine lv_lload_n hx hb dX3_within_24 rfl (lv_at hl 0 rfl) ?_
      refine lv_l2i hx hb dX3_within_25 rfl ?_
      refine lv_topi (fun z11 ez11 => ?_)
      have Ez11 := lf_l2ie ez11 (lf_rl p0)
      subst hQ; exact k_iret hx hb hr hlk rfl () hS ((hO.symm.trans (by rw [lf_u Ez11]; exact hq))) hP hD (Nat.le_of_ble_eq_true rfl) (Nat.le_of_ble_eq_true rfl) dX3_within_26
    · replace hq := lf_neg hq (lf_nle (lf_lc 0 (0 : Int) rfl) Ez6 c8)
      have h12 := ib_nle (ib_c 0 0 0 rfl) h7 c8
      have h13 : ib z6 (-1) (-1) := ib_w (-1) (-1) h12.2 rfl
      refine lv_ldc hx hb C0.2.2.2.1 (C0.2.2.2.2.1 _ wd864) dX3_within_19 ?_
      refine lv_goto (tgt := 26) hx hb dX3_within_21 rfl ?_
      subst hQ; exact k_iret hx hb hr hlk rfl () hS ((hO.symm.trans (by try simp only [show ((-1000000) : Int32).toInt = (-1000000 : Int) from rfl]; exact hq))) hP hD (Nat.le_of_ble_eq_true rfl) (Nat.le_of_ble_eq_true rfl) dX3_within_26
  · replace hq := lf_neg hq (lf_nle Ez1 (lf_lc 0 (0 : Int) rfl) c3)
    have h14 := ib_nle h2 (ib_c 0 0 0 rfl) c3
    have h15 : ib z1 1 1 := ib_w 1 1 h14.1 rfl
    refine lv_ldc hx hb C0.2.2.2.1 (C0.2.2.2.2.1 _ wd862) dX3_within_8 ?_
    subst hQ; exact k_iret hx hb hr hlk rfl () hS ((hO.symm.trans (by try simp only [show (1000000 : Int32).toInt = (1000000 : Int) from rfl]; exact hq))) hP hD (Nat.le_of_ble_eq_true rfl) (Nat.le_of_ble_eq_true rfl) dX3_within_10
set_option maxHeartbeats 4000000 in
set_option maxRecDepth 100000 in
theorem s_X3_operate (l : Launch) (dC : Nat → ClassId) (dI : Nat → Nat → Nat) (cy : Nat → ClassId) (sq : Nat → Nat) (p0 : Int32) (p1 : Int32) (p2 : Int32)  : k_Met l yX3_operate cX3_operate 3 (some .int) { frames := 1, cells := 0, slots := 0, locals := 22 } dC dI cy sq [.int p0, .int p1, .int p2] [] (k_Qi dC dI (fun (r : Int32) (_ : Unit) => (F_X3_operate (Int32.toInt p0) (Int32.toInt p1) (Int32.toInt p2) = ((Int32.toInt r)))) (fun _ : Unit => [])) := by
  refine k_ofW2 (by decide +kernel) (Nat.le_of_ble_eq_true rfl) ?_
  intro p e s m below meth c A ls H locs args Q hQ C0 hZ hr hlk hin hP hD hA hS hl
  have C0 : k_cx p s m args c cX3_operate 3 RX3 dC dI cy sq := C0
  have hx := C0.1
  have hb := C0.2.1
  have hl : lv_has ls 3 [(0, .int p0), (1, .int p1), (2, .int p2)] := hl
  obtain ⟨O, hO⟩ : ∃ o, o = F_X3_operate (Int32.toInt p0) (Int32.toInt p1) (Int32.toInt p2) := ⟨_, rfl⟩
  have hq := hO
  unfold F_X3_operate at hq
  refine lv_iload_n hx hb dX3_operate_0 rfl (lv_at hl 0 rfl) ?_
  rcases Decidable.em (p0 = (-29)) with s1_m29 | s1_m29
  · skip
    replace hq := lf_pos hq (lf_eq (lf_rf p0) (lf_lc (-29) (-29 : Int) rfl) s1_m29)
    have h2 : ib p0 (-29) (-29) := by rw [s1_m29]; exact ib_c (-29) (-29) (-29) rfl
    refine lv_tableIn (off := 151) (tgt := 152) hx hb dX3_operate_1 (by rw [s1_m29]; decide) (by rw [s1_m29]; decide) (by rw [s1_m29]; decide) (by decide) ?_
    refine lv_iload_n hx hb dX3_operate_152 rfl (lv_at hl 1 rfl) ?_
    refine lv_iload_n hx hb dX3_operate_153 rfl (lv_at hl 2 rfl) ?_
    refine lv_iand hx hb dX3_operate_154 ?_
    refine lv_topi (fun z3 ez3 => ?_)
    have Ez3 := lf_op lf_iand ez3 (lf_rf p1) (lf_rf p2)
    subst hQ; exact k_iret hx hb hr hlk rfl () hS ((hO.symm.trans (by rw [lf_u Ez3]; exact hq))) hP hD (Nat.le_of_ble_eq_true rfl) (Nat.le_of_ble_eq_true rfl) dX3_operate_155
  replace hq := lf_neg hq (lf_ne (lf_rf p0) (lf_lc (-29) (-29 : Int) rfl) s1_m29)
  rcases Decidable.em (p0 = (-28)) with s1_m28 | s1_m28
  · skip
    replace hq := lf_pos hq (lf_eq (lf_rf p0) (lf_lc (-28) (-28 : Int) rfl) s1_m28)
    have h4 : ib p0 (-28) (-28) := by rw [s1_m28]; exact ib_c (-28) (-28) (-28) rfl
    refine lv_tableIn (off := 140) (tgt := 141) hx hb dX3_operate_1 (by rw [s1_m28]; decide) (by rw [s1_m28]; decide) (by rw [s1_m28]; decide) (by decide) ?_
    refine lv_iload_n hx hb dX3_operate_141 rfl (lv_at hl 1 rfl) ?_
    refine lv_iload_n hx hb dX3_operate_142 rfl (lv_at hl 2 rfl) ?_
    refine lv_icmp_ne (tgt := 150) hx hb dX3_operate_143 rfl (fun c5 => ?_) (fun c5 => ?_)
    · replace hq := lf_neg hq (lf_ne (lf_rf p1) (lf_rf p2) c5)
      refine lv_iconst (v := 0) hx hb dX3_operate_150 rfl ?_
      subst hQ; exact k_iret hx hb hr hlk rfl () hS ((hO.symm.trans (by try simp only [show (0 : Int32).toInt = (0 : Int) from rfl]; exact hq))) hP hD (Nat.le_of_ble_eq_true rfl) (Nat.le_of_ble_eq_true rfl) dX3_operate_151
    · replace hq := lf_pos hq (lf_eq (lf_rf p1) (lf_rf p2) c5)
      have h6 := ib_eq (ib_any p1) (ib_any p2) c5
      refine lv_iconst (v := 1) hx hb dX3_operate_146 rfl ?_
      refine lv_goto (tgt := 151) hx hb dX3_operate_147 rfl ?_
      subst hQ; exact k_iret hx hb hr hlk rfl () hS ((hO.symm.trans (by try simp only [show (1 : Int32).toInt = (1 : Int) from rfl]; exact hq))) hP hD (Nat.le_of_ble_eq_true rfl) (Nat.le_of_ble_eq_true rfl) dX3_operate_151
  replace hq := lf_neg hq (lf_ne (lf_rf p0) (lf_lc (-28) (-28 : Int) rfl) s1_m28)
  rcases Decidable.em (p0 = (-27)) with s1_m27 | s1_m27
  · skip
    replace hq := lf_pos hq (lf_eq (lf_rf p0) (lf_lc (-27) (-27 : Int) rfl) s1_m27)
    have h7 : ib p0 (-27) (-27) := by rw [s1_m27]; exact ib_c (-27) (-27) (-27) rfl
    refine lv_tableIn (off := 129) (tgt := 130) hx hb dX3_operate_1 (by rw [s1_m27]; decide) (by rw [s1_m27]; decide) (by rw [s1_m27]; decide) (by decide) ?_
    refine lv_iload_n hx hb dX3_operate_130 rfl (lv_at hl 1 rfl) ?_
    refine lv_iload_n hx hb dX3_operate_131 rfl (lv_at hl 2 rfl) ?_
    refine lv_icmp_le (tgt := 139) hx hb dX3_operate_132 rfl (fun c8 => ?_) (fun c8 => ?_)
    · replace hq := lf_pos hq (lf_le (lf_rf p1) (lf_rf p2) c8)
      have h9 := ib_le (ib_any p1) (ib_any p2) c8
      refine lv_iconst (v := 0) hx hb dX3_operate_139 rfl ?_
      subst hQ; exact k_iret hx hb hr hlk rfl () hS ((hO.symm.trans (by try simp only [show (0 : Int32).toInt = (0 : Int) from rfl]; exact hq))) hP hD (Nat.le_of_ble_eq_true rfl) (Nat.le_of_ble_eq_true rfl) dX3_operate_140
    · replace hq := lf_neg hq (lf_nle (lf_rf p1) (lf_rf p2) c8)
      have h10 := ib_nle (ib_any p1) (ib_any p2) c8
      have h11 : ib p1 (-2147483647) 2147483647 := ib_w (-2147483647) 2147483647 h10.1 rfl
      have h12 : ib p2 (-2147483648) 2147483646 := ib_w (-2147483648) 2147483646 h10.2 rfl
      refine lv_iconst (v := 1) hx hb dX3_operate_135 rfl ?_
      refine lv_goto (tgt := 140) hx hb dX3_operate_136 rfl ?_
      subst hQ; exact k_iret hx hb hr hlk rfl () hS ((hO.symm.trans (by try simp only [show (1 : Int32).toInt = (1 : Int) from rfl]; exact hq))) hP hD (Nat.le_of_ble_eq_true rfl) (Nat.le_of_ble_eq_true rfl) dX3_operate_140
  replace hq := lf_neg hq (lf_ne (lf_rf p0) (lf_lc (-27) (-27 : Int) rfl) s1_m27)
  rcases Decidable.em (p0 = (-26)) with s1_m26 | s1_m26
  · skip
    replace hq := lf_pos hq (lf_eq (lf_rf p0) (lf_lc (-26) (-26 : Int) rfl) s1_m26)
    have h13 : ib p0 (-26) (-26) := by rw [s1_m26]; exact ib_c (-26) (-26) (-26) rfl
    refine lv_tableIn (off := 118) (tgt := 119) hx hb dX3_operate_1 (by rw [s1_m26]; decide) (by rw [s1_m26]; decide) (by rw [s1_m26]; decide) (by decide) ?_
    refine lv_iload_n hx hb dX3_operate_119 rfl (lv_at hl 1 rfl) ?_
    refine lv_iload_n hx hb dX3_operate_120 rfl (lv_at hl 2 rfl) ?_
    refine lv_icmp_ge (tgt := 128) hx hb dX3_operate_121 rfl (fun c14 => ?_) (fun c14 => ?_)
    · replace hq := lf_pos hq (lf_le (lf_rf p2) (lf_rf p1) c14)
      have h15 := ib_le (ib_any p2) (ib_any p1) c14
      refine lv_iconst (v := 0) hx hb dX3_operate_128 rfl ?_
      subst hQ; exact k_iret hx hb hr hlk rfl () hS ((hO.symm.trans (by try simp only [show (0 : Int32).toInt = (0 : Int) from rfl]; exact hq))) hP hD (Nat.le_of_ble_eq_true rfl) (Nat.le_of_ble_eq_true rfl) dX3_operate_129
    · replace hq := lf_neg hq (lf_nle (lf_rf p2) (lf_rf p1) c14)
      have h16 := ib_nle (ib_any p2) (ib_any p1) c14
      have h17 : ib p2 (-2147483647) 2147483647 := ib_w (-2147483647) 2147483647 h16.1 rfl
      have h18 : ib p1 (-2147483648) 2147483646 := ib_w (-2147483648) 2147483646 h16.2 rfl
      refine lv_iconst (v := 1) hx hb dX3_operate_124 rfl ?_
      refine lv_goto (tgt := 129) hx hb dX3_operate_125 rfl ?_
      subst hQ; exact k_iret hx hb hr hlk rfl () hS ((hO.symm.trans (by try simp only [show (1 : Int32).toInt = (1 : Int) from rfl]; exact hq))) hP hD (Nat.le_of_ble_eq_true rfl) (Nat.le_of_ble_eq_true rfl) dX3_operate_129
  replace hq := lf_neg hq (lf_ne (lf_rf p0) (lf_lc (-26) (-26 : Int) rfl) s1_m26)
  rcases Decidable.em (p0 = (-25)) with s1_m25 | s1_m25
  · skip
    replace hq := lf_pos hq (lf_eq (lf_rf p0) (lf_lc (-25) (-25 : Int) rfl) s1_m25)
    have h19 : ib p0 (-25) (-25) := by rw [s1_m25]; exact ib_c (-25) (-25) (-25) rfl
    refine lv_tableIn (off := 107) (tgt := 108) hx hb dX3_operate_1 (by rw [s1_m25]; decide) (by rw [s1_m25]; decide) (by rw [s1_m25]; decide) (by decide) ?_
    refine lv_iload_n hx hb dX3_operate_108 rfl (lv_at hl 1 rfl) ?_
    refine lv_iload_n hx hb dX3_operate_109 rfl (lv_at hl 2 rfl) ?_
    refine lv_icmp_le (tgt := 117) hx hb dX3_operate_110 rfl (fun c20 => ?_) (fun c20 => ?_)
    · replace hq := lf_pos hq (lf_le (lf_rf p1) (lf_rf p2) c20)
      have h21 := ib_le (ib_any p1) (ib_any p2) c20
      refine lv_iload_n hx hb dX3_operate_117 rfl (lv_at hl 2 rfl) ?_
      subst hQ; exact k_iret hx hb hr hlk rfl () hS ((hO.symm.trans (by exact hq))) hP hD (Nat.le_of_ble_eq_true rfl) (Nat.le_of_ble_eq_true rfl) dX3_operate_118
    · replace hq := lf_neg hq (lf_nle (lf_rf p1) (lf_rf p2) c20)
      have h22 := ib_nle (ib_any p1) (ib_any p2) c20
      have h23 : ib p1 (-2147483647) 2147483647 := ib_w (-2147483647) 2147483647 h22.1 rfl
      have h24 : ib p2 (-2147483648) 2147483646 := ib_w (-2147483648) 2147483646 h22.2 rfl
      refine lv_iload_n hx hb dX3_operate_113 rfl (lv_at hl 1 rfl) ?_
      refine lv_goto (tgt := 118) hx hb dX3_operate_114 rfl ?_
      subst hQ; exact k_iret hx hb hr hlk rfl () hS ((hO.symm.trans (by exact hq))) hP hD (Nat.le_of_ble_eq_true rfl) (Nat.le_of_ble_eq_true rfl) dX3_operate_118
  replace hq := lf_neg hq (lf_ne (lf_rf p0) (lf_lc (-25) (-25 : Int) rfl) s1_m25)
  rcases Decidable.em (p0 = (-24)) with s1_m24 | s1_m24
  · skip
    replace hq := lf_pos hq (lf_eq (lf_rf p0) (lf_lc (-24) (-24 : Int) rfl) s1_m24)
    have h25 : ib p0 (-24) (-24) := by rw [s1_m24]; exact ib_c (-24) (-24) (-24) rfl
    refine lv_tableIn (off := 96) (tgt := 97) hx hb dX3_operate_1 (by rw [s1_m24]; decide) (by rw [s1_m24]; decide) (by rw [s1_m24]; decide) (by decide) ?_
    refine lv_iload_n hx hb dX3_operate_97 rfl (lv_at hl 1 rfl) ?_
    refine lv_iload_n hx hb dX3_operate_98 rfl (lv_at hl 2 rfl) ?_
    refine lv_icmp_ge (tgt := 106) hx hb dX3_operate_99 rfl (fun c26 => ?_) (fun c26 => ?_)
    · replace hq := lf_pos hq (lf_le (lf_rf p2) (lf_rf p1) c26)
      have h27 := ib_le (ib_any p2) (ib_any p1) c26
      refine lv_iload_n hx hb dX3_operate_106 rfl (lv_at hl 2 rfl) ?_
      subst hQ; exact k_iret hx hb hr hlk rfl () hS ((hO.symm.trans (by exact hq))) hP hD (Nat.le_of_ble_eq_true rfl) (Nat.le_of_ble_eq_true rfl) dX3_operate_107
    · replace hq := lf_neg hq (lf_nle (lf_rf p2) (lf_rf p1) c26)
      have h28 := ib_nle (ib_any p2) (ib_any p1) c26
      have h29 : ib p2 (-2147483647) 2147483647 := ib_w (-2147483647) 2147483647 h28.1 rfl
      have h30 : ib p1 (-2147483648) 2147483646 := ib_w (-2147483648) 2147483646 h28.2 rfl
      refine lv_iload_n hx hb dX3_operate_102 rfl (lv_at hl 1 rfl) ?_
      refine lv_goto (tgt := 107) hx hb dX3_operate_103 rfl ?_
      subst hQ; exact k_iret hx hb hr hlk rfl () hS ((hO.symm.trans (by exact hq))) hP hD (Nat.le_of_ble_eq_true rfl) (Nat.le_of_ble_eq_true rfl) dX3_operate_107
  replace hq := lf_neg hq (lf_ne (lf_rf p0) (lf_lc (-24) (-24 : Int) rfl) s1_m24)
  rcases Decidable.em (p0 = (-23)) with s1_m23 | s1_m23
  · as_aux_lemma =>
      skip
      replace hq := lf_pos hq (lf_eq (lf_rf p0) (lf_lc (-23) (-23 : Int) rfl) s1_m23)
      have h31 : ib p0 (-23) (-23) := by rw [s1_m23]; exact ib_c (-23) (-23) (-23) rfl
      refine lv_tableIn (off := 82) (tgt := 83) hx hb dX3_operate_1 (by rw [s1_m23]; decide) (by rw [s1_m23]; decide) (by rw [s1_m23]; decide) (by decide) ?_
      refine lv_iload_n hx hb dX3_operate_83 rfl (lv_at hl 2 rfl) ?_
      refine lv_if_ne (tgt := 91) hx hb dX3_operate_84 rfl (fun c32 => ?_) (fun c32 => ?_)
      · replace hq := lf_neg hq (lf_ne (lf_rf p2) (lf_lc 0 (0 : Int) rfl) c32)
        refine lv_iload_n hx hb dX3_operate_91 rfl (lv_at hl 1 rfl) ?_
        refine lv_iload_n hx hb dX3_operate_92 rfl (lv_at hl 2 rfl) ?_
        refine k_ji hP hD hS hA [] [] (wr := []) rfl rfl (by decide) (by decide) (by decide) 0 0 (Nat.le_of_ble_eq_true rfl) (Nat.le_of_ble_eq_true rfl) (fun hPc hDc => k_runS (As := [.int p1, .int p2]) (rest := []) C0 hZ hS hA (c_floorDivx l dC dI cy sq p1 p2 c32) mS_X3_26 hPc hDc hl rfl rfl (Nat.le_of_ble_eq_true rfl) ⟨(Nat.le_of_ble_eq_true rfl), (Nat.le_of_ble_eq_true rfl)⟩ ⟨(Nat.le_of_ble_eq_true rfl), (Nat.le_of_ble_eq_true rfl)⟩ dX3_operate_93) (fun r33 u34 H locs hw hP hD hS => ?_)
        replace hP : va_P (dC, dI) vwCl [] H := hP
        replace hD := k_D hP hD
        have Er33 := lf_op lf_fdv hw (lf_rf p1) (lf_rf p2)
        subst hQ; exact k_iret hx hb hr hlk rfl () hS ((hO.symm.trans (by rw [lf_u Er33]; exact hq))) hP hD (Nat.le_of_ble_eq_true rfl) (Nat.le_of_ble_eq_true rfl) dX3_operate_96
      · replace hq := lf_pos hq (lf_eq (lf_rf p2) (lf_lc 0 (0 : Int) rfl) c32)
        have h35 := ib_eq (ib_any p2) (ib_c 0 0 0 rfl) c32
        have h36 : ib p2 0 0 := ib_w 0 0 h35.1 rfl
        refine lv_iconst (v := 0) hx hb dX3_operate_87 rfl ?_
        refine lv_goto (tgt := 96) hx hb dX3_operate_88 rfl ?_
        subst hQ; exact k_iret hx hb hr hlk rfl () hS ((hO.symm.trans (by try simp only [show (0 : Int32).toInt = (0 : Int) from rfl]; exact hq))) hP hD (Nat.le_of_ble_eq_true rfl) (Nat.le_of_ble_eq_true rfl) dX3_operate_96
  replace hq := lf_neg hq (lf_ne (lf_rf p0) (lf_lc (-23) (-23 : Int) rfl) s1_m23)
  as_aux_lemma =>
    rcases Decidable.em (p0 = (-22)) with s1_m22 | s1_m22
    · skip
      replace hq := lf_pos hq (lf_eq (lf_rf p0) (lf_lc (-22) (-22 : Int) rfl) s1_m22)
      have h37 : ib p0 (-22) (-22) := by rw [s1_m22]; exact ib_c (-22) (-22) (-22) rfl
      refine lv_tableIn (off := 73) (tgt := 74) hx hb dX3_operate_1 (by rw [s1_m22]; decide) (by rw [s1_m22]; decide) (by rw [s1_m22]; decide) (by decide) ?_
      refine lv_iload_n hx hb dX3_operate_74 rfl (lv_at hl 1 rfl) ?_
      refine lv_i2l (v := p1.toInt64) hx hb dX3_operate_75 rfl ?_
      refine lv_iload_n hx hb dX3_operate_76 rfl (lv_at hl 2 rfl) ?_
      refine lv_i2l (v := p2.toInt64) hx hb dX3_operate_77 rfl ?_
      refine lv_lmul hx hb dX3_operate_78 ?_
      refine lv_topl (fun z38 ez38 => ?_)
      have Ez38 := lf_opl lf_lmul ez38 (lf_i2l (lf_rf p1)) (lf_i2l (lf_rf p2))
      refine k_ji hP hD hS hA [] [] (wr := []) rfl rfl (by decide) (by decide) (by decide) 0 0 (Nat.le_of_ble_eq_true rfl) (Nat.le_of_ble_eq_true rfl) (fun hPc hDc => k_runS (As := [.long z38]) (rest := []) C0 hZ hS hA (s_X3_within l dC dI cy sq z38 ) mS_X3_22 hPc hDc hl rfl rfl (Nat.le_of_ble_eq_true rfl) ⟨(Nat.le_of_ble_eq_true rfl), (Nat.le_of_ble_eq_true rfl)⟩ ⟨(Nat.le_of_ble_eq_true rfl), (Nat.le_of_ble_eq_true rfl)⟩ dX3_operate_79) (fun r39 u40 H locs hw hP hD hS => ?_)
      try dsimp only at hP hD hw
      replace hP : va_P (dC, dI) vwCl [] H := hP
      replace hD := k_D hP hD
      have h41 := hw
      have h41 := by have h9 := h41; rw [lf_ul Ez38] at h9; exact h9
      replace hq := lf_b1 hq h41
      subst hQ; exact k_iret hx hb hr hlk rfl () hS ((hO.symm.trans (by exact hq))) hP hD (Nat.le_of_ble_eq_true rfl) (Nat.le_of_ble_eq_true rfl) dX3_operate_82
    replace hq := lf_neg hq (lf_ne (lf_rf p0) (lf_lc (-22) (-22 : Int) rfl) s1_m22)
    rcases Decidable.em (p0 = (-21)) with s1_m21 | s1_m21
    · skip
      replace hq := lf_pos hq (lf_eq (lf_rf p0) (lf_lc (-21) (-21 : Int) rfl) s1_m21)
      have h42 : ib p0 (-21) (-21) := by rw [s1_m21]; exact ib_c (-21) (-21) (-21) rfl
      refine lv_tableIn (off := 64) (tgt := 65) hx hb dX3_operate_1 (by rw [s1_m21]; decide) (by rw [s1_m21]; decide) (by rw [s1_m21]; decide) (by decide) ?_
      refine lv_iload_n hx hb dX3_operate_65 rfl (lv_at hl 1 rfl) ?_
      refine lv_i2l (v := p1.toInt64) hx hb dX3_operate_66 rfl ?_
      refine lv_iload_n hx hb dX3_operate_67 rfl (lv_at hl 2 rfl) ?_
      refine lv_i2l (v := p2.toInt64) hx hb dX3_operate_68 rfl ?_
      refine lv_lsub hx hb dX3_operate_69 ?_
      refine lv_topl (fun z43 ez43 => ?_)
      have Ez43 := lf_opl lf_lsub ez43 (lf_i2l (lf_rf p1)) (lf_i2l (lf_rf p2))
      refine k_ji hP hD hS hA [] [] (wr := []) rfl rfl (by decide) (by decide) (by decide) 0 0 (Nat.le_of_ble_eq_true rfl) (Nat.le_of_ble_eq_true rfl) (fun hPc hDc => k_runS (As := [.long z43]) (rest := []) C0 hZ hS hA (s_X3_within l dC dI cy sq z43 ) mS_X3_22 hPc hDc hl rfl rfl (Nat.le_of_ble_eq_true rfl) ⟨(Nat.le_of_ble_eq_true rfl), (Nat.le_of_ble_eq_true rfl)⟩ ⟨(Nat.le_of_ble_eq_true rfl), (Nat.le_of_ble_eq_true rfl)⟩ dX3_operate_70) (fun r44 u45 H locs hw hP hD hS => ?_)
      try dsimp only at hP hD hw
      replace hP : va_P (dC, dI) vwCl [] H := hP
      replace hD := k_D hP hD
      have h46 := hw
      have h46 := by have h9 := h46; rw [lf_ul Ez43] at h9; exact h9
      replace hq := lf_b1 hq h46
      subst hQ; exact k_iret hx hb hr hlk rfl () hS ((hO.symm.trans (by exact hq))) hP hD (Nat.le_of_ble_eq_true rfl) (Nat.le_of_ble_eq_true rfl) dX3_operate_73
    replace hq := lf_neg hq (lf_ne (lf_rf p0) (lf_lc (-21) (-21 : Int) rfl) s1_m21)
    rcases Decidable.em (p0 = (-20)) with s1_m20 | s1_m20
    · skip
      replace hq := lf_pos hq (lf_eq (lf_rf p0) (lf_lc (-20) (-20 : Int) rfl) s1_m20)
      have h47 : ib p0 (-20) (-20) := by rw [s1_m20]; exact ib_c (-20) (-20) (-20) rfl
      refine lv_tableIn (off := 55) (tgt := 56) hx hb dX3_operate_1 (by rw [s1_m20]; decide) (by rw [s1_m20]; decide) (by rw [s1_m20]; decide) (by decide) ?_
      refine lv_iload_n hx hb dX3_operate_56 rfl (lv_at hl 1 rfl) ?_
      refine lv_i2l (v := p1.toInt64) hx hb dX3_operate_57 rfl ?_
      refine lv_iload_n hx hb dX3_operate_58 rfl (lv_at hl 2 rfl) ?_
      refine lv_i2l (v := p2.toInt64) hx hb dX3_operate_59 rfl ?_
      refine lv_ladd hx hb dX3_operate_60 ?_
      refine lv_topl (fun z48 ez48 => ?_)
      have Ez48 := lf_opl lf_ladd ez48 (lf_i2l (lf_rf p1)) (lf_i2l (lf_rf p2))
      refine k_ji hP hD hS hA [] [] (wr := []) rfl rfl (by decide) (by decide) (by decide) 0 0 (Nat.le_of_ble_eq_true rfl) (Nat.le_of_ble_eq_true rfl) (fun hPc hDc => k_runS (As := [.long z48]) (rest := []) C0 hZ hS hA (s_X3_within l dC dI cy sq z48 ) mS_X3_22 hPc hDc hl rfl rfl (Nat.le_of_ble_eq_true rfl) ⟨(Nat.le_of_ble_eq_true rfl), (Nat.le_of_ble_eq_true rfl)⟩ ⟨(Nat.le_of_ble_eq_true rfl), (Nat.le_of_ble_eq_true rfl)⟩ dX3_operate_61) (fun r49 u50 H locs hw hP hD hS => ?_)
      try dsimp only at hP hD hw
      replace hP : va_P (dC, dI) vwCl [] H := hP
      replace hD := k_D hP hD
      have h51 := hw
      have h51 := by have h9 := h51; rw [lf_ul Ez48] at h9; exact h9
      replace hq := lf_b1 hq h51
      subst hQ; exact k_iret hx hb hr hlk rfl () hS ((hO.symm.trans (by exact hq))) hP hD (Nat.le_of_ble_eq_true rfl) (Nat.le_of_ble_eq_true rfl) dX3_operate_64
    replace hq := lf_neg hq (lf_ne (lf_rf p0) (lf_lc (-20) (-20 : Int) rfl) s1_m20)
    refine lv_tableOut (tgt := 156) hx hb dX3_operate_1 (by have q0 := ib_nei (-29) (-29) rfl s1_m29; have q1 := ib_nei (-28) (-28) rfl s1_m28; have q2 := ib_nei (-27) (-27) rfl s1_m27; have q3 := ib_nei (-26) (-26) rfl s1_m26; have q4 := ib_nei (-25) (-25) rfl s1_m25; have q5 := ib_nei (-24) (-24) rfl s1_m24; have q6 := ib_nei (-23) (-23) rfl s1_m23; have q7 := ib_nei (-22) (-22) rfl s1_m22; have q8 := ib_nei (-21) (-21) rfl s1_m21; have q9 := ib_nei (-20) (-20) rfl s1_m20; omega) (by decide) ?_
    refine lv_iload_n hx hb dX3_operate_156 rfl (lv_at hl 1 rfl) ?_
    refine lv_iload_n hx hb dX3_operate_157 rfl (lv_at hl 2 rfl) ?_
    refine lv_ior hx hb dX3_operate_158 ?_
    refine lv_topi (fun z52 ez52 => ?_)
    have Ez52 := lf_op lf_ior ez52 (lf_rf p1) (lf_rf p2)
    subst hQ; exact k_iret hx hb hr hlk rfl () hS ((hO.symm.trans (by rw [lf_u Ez52]; exact hq))) hP hD (Nat.le_of_ble_eq_true rfl) (Nat.le_of_ble_eq_true rfl) dX3_operate_159
set_option maxHeartbeats 4000000 in
set_option maxRecDepth 100000 in
theorem s_X3_value (l : Launch) (dC : Nat → ClassId) (dI : Nat → Nat → Nat) (cy : Nat → ClassId) (sq : Nat → Nat) (a_this : Nat) (a_this_facts : Nat) (g_this_facts : Nat → Int32) (a_this_stack : Nat) (g_this_stack : Nat → Int32) (a_arg0 : Nat) (g_arg0 : Nat → Int32) (p1 : Int32) (p2 : Int32) (hp1 : ib p1 0 1600) : k_Met l yX3_value cX3_value 7 (some .int) { frames := 2, cells := 0, slots := 0, locals := 44 } dC dI cy sq [.ref a_this, .ref a_arg0, .int p1, .int p2] [(wo_3_rr a_this a_this_facts a_this_stack), (wi_0_1600_0 a_arg0 cy g_arg0), (wi_0_13_0 a_this_facts cy g_this_facts), (wi_0_64_0 a_this_stack cy g_this_stack)] (k_Qi dC dI (fun (r : Int32) (n0 : (Nat → Int32)) => (F_X3_value (lf_A g_this_facts) (lf_A g_this_stack) (lf_A g_arg0) (Int32.toInt p1) (Int32.toInt p2) = ((Int32.toInt r), (lf_A n0)))) (fun n0 : (Nat → Int32) => [(wo_3_rr a_this a_this_facts a_this_stack), (wi_0_1600_0 a_arg0 cy g_arg0), (wi_0_13_0 a_this_facts cy g_this_facts), (wi_0_64_0 a_this_stack cy n0)])) := by
  refine k_ofW2 (by decide +kernel) (Nat.le_of_ble_eq_true rfl) ?_
  intro p e s m below meth c A ls H locs args Q hQ C0 hZ hr hlk hin hP hD hA hS hl
  have C0 : k_cx p s m args c cX3_value 7 RX3 dC dI cy sq := C0
  have hx := C0.1
  have hb := C0.2.1
  have hl : lv_has ls 7 [(0, .ref a_this), (1, .ref a_arg0), (2, .int p1), (3, .int p2)] := hl
  obtain ⟨O, hO⟩ : ∃ o, o = F_X3_value (lf_A g_this_facts) (lf_A g_this_stack) (lf_A g_arg0) (Int32.toInt p1) (Int32.toInt p2) := ⟨_, rfl⟩
  have hq := hO
  unfold F_X3_value at hq
  have jn199 : ∀ (J199_l4 : Int32) (J199_l5 : Int32) (J199_a3 : Nat → Int32) (H : Heap) (locs : List Loc) (ls : Array Slot), ib J199_l4 0 64 → ib J199_l5 0 1600 → (O = F_X3_value_199 (Int32.toInt J199_l4) (Int32.toInt J199_l5) (lf_A J199_a3)) → va_P (dC, dI) vwCl [(wo_3_rr a_this a_this_facts a_this_stack), (wi_0_1600_0 a_arg0 cy g_arg0), (wi_0_13_0 a_this_facts cy g_this_facts), (wi_0_64_0 a_this_stack cy J199_a3)] H → va_D A [(wo_3_rr a_this a_this_facts a_this_stack), (wi_0_1600_0 a_arg0 cy g_arg0), (wi_0_13_0 a_this_facts cy g_this_facts), (wi_0_64_0 a_this_stack cy J199_a3)] → va_S A s.heap H locs → lv_has ls 7 [(0, .ref a_this), (1, .ref a_arg0), (2, .int p1), (3, .int p2), (4, .int J199_l4), (5, .int J199_l5)] → W p l e { frames := 2, cells := 0, slots := 0, locals := 44 } s m args below meth c H locs 0 0 Q (F0 m 199 ls []) := by
    as_aux_lemma =>
      intro J199_l4 J199_l5 J199_a3 H locs ls hJ199_l4 hJ199_l5 hq hP hD hS hl
      unfold F_X3_value_199 at hq
      refine lv_iload hx hb dX3_value_199 (lv_at hl 4 rfl) ?_
      refine lv_if_le (tgt := 216) hx hb dX3_value_201 rfl (fun c1 => ?_) (fun c1 => ?_)
      · replace hq := lf_pos hq (lf_le (lf_rf J199_l4) (lf_lc 0 (0 : Int) rfl) c1)
        have h2 := ib_le hJ199_l4 (ib_c 0 0 0 rfl) c1
        have h3 : ib J199_l4 0 0 := ib_w 0 0 h2.1 rfl
        refine lv_iconst (v := 0) hx hb dX3_value_216 rfl ?_
        subst hQ; exact k_iret hx hb hr hlk rfl J199_a3 hS ((hO.symm.trans (by try simp only [show (0 : Int32).toInt = (0 : Int) from rfl]; exact hq))) hP hD (Nat.le_of_ble_eq_true rfl) (Nat.le_of_ble_eq_true rfl) dX3_value_217
      · replace hq := lf_neg hq (lf_nle (lf_rf J199_l4) (lf_lc 0 (0 : Int) rfl) c1)
        have h4 := ib_nle hJ199_l4 (ib_c 0 0 0 rfl) c1
        have h5 : ib J199_l4 1 64 := ib_w 1 64 h4.1 rfl
        refine lv_aload_n hx hb dX3_value_204 rfl (lv_at hl 0 rfl) ?_
        refine k_get C0 fg_X3_15 hP 0 rfl rfl dX3_value_205 ?_
        refine lv_iload hx hb dX3_value_208 (lv_at hl 4 rfl) ?_
        refine lv_iconst (v := 1) hx hb dX3_value_210 rfl ?_
        refine lv_isub hx hb dX3_value_211 ?_
        refine lv_topi (fun z6 ez6 => ?_)
        have h7 := ib_sub h5 (ib_c 1 1 1 rfl) rfl
        rw [← ez6] at h7
        have h8 : ib z6 0 63 := ib_w 0 63 h7.1 rfl
        have Ez6 := lf_sub h7.2 (lf_rf J199_l4) (lf_lc 1 (1 : Int) rfl)
        refine va_iald hx hb C0.2.2.2.2.2.1 hP 3 0 rfl rfl (ib_in 64 h8 rfl) dX3_value_212 ?_
        refine lv_topi (fun z9 ez9 => ?_)
        have Ez9 := lf_ld ez9 (lf_ra J199_a3) Ez6
        refine lv_goto (tgt := 217) hx hb dX3_value_213 rfl ?_
        subst hQ; exact k_iret hx hb hr hlk rfl J199_a3 hS ((hO.symm.trans (by rw [lf_u Ez9]; exact hq))) hP hD (Nat.le_of_ble_eq_true rfl) (Nat.le_of_ble_eq_true rfl) dX3_value_217
  have jn6 : ∀ (n : Nat) (J6_l4 : Int32) (J6_l5 : Int32) (J6_a3 : Nat → Int32) (H : Heap) (locs : List Loc) (ls : Array Slot), ib J6_l4 0 64 → ib J6_l5 0 1600 → (O = F_X3_value_6 (lf_A g_this_facts) (lf_A g_arg0) (Int32.toInt p2) n (Int32.toInt J6_l4) (Int32.toInt J6_l5) (lf_A J6_a3)) → 1601 ≤ J6_l5.toInt + (n : Int) → va_P (dC, dI) vwCl [(wo_3_rr a_this a_this_facts a_this_stack), (wi_0_1600_0 a_arg0 cy g_arg0), (wi_0_13_0 a_this_facts cy g_this_facts), (wi_0_64_0 a_this_stack cy J6_a3)] H → va_D A [(wo_3_rr a_this a_this_facts a_this_stack), (wi_0_1600_0 a_arg0 cy g_arg0), (wi_0_13_0 a_this_facts cy g_this_facts), (wi_0_64_0 a_this_stack cy J6_a3)] → va_S A s.heap H locs → lv_has ls 7 [(0, .ref a_this), (1, .ref a_arg0), (2, .int p1), (3, .int p2), (4, .int J6_l4), (5, .int J6_l5)] → W p l e { frames := 2, cells := 0, slots := 0, locals := 44 } s m args below meth c H locs 0 0 Q (F0 m 6 ls []) := by
    as_aux_lemma =>
      intro n
      induction n with
      | zero =>
        intro J6_l4 J6_l5 J6_a3 H locs ls hJ6_l4 hJ6_l5 hq hm
        exact absurd hm (by have := hJ6_l5; unfold ib at this; omega)
      | succ n ih =>
        intro J6_l4 J6_l5 J6_a3 H locs ls hJ6_l4 hJ6_l5 hq hm6 hP hD hS hl
        have ih6 := ih
        obtain ⟨K6, hK6⟩ : ∃ K, K = F_X3_value_6 (lf_A g_this_facts) (lf_A g_arg0) (Int32.toInt p2) n := ⟨_, rfl⟩
        have hq : O = F_X3_value_6b (lf_A g_this_facts) (lf_A g_arg0) (Int32.toInt p2) K6 (Int32.toInt J6_l4) (Int32.toInt J6_l5) (lf_A J6_a3) := by rw [hK6]; exact hq
        unfold F_X3_value_6b at hq
        have jn193 : ∀ (J193_l6 : Int32) (J193_a3 : Nat → Int32) (J193_l4 : Int32) (H : Heap) (locs : List Loc) (ls : Array Slot), ib p2 1 2147483647 → ib J6_l5 0 1599 → ib J193_l4 0 64 → (O = F_X3_value_193 (Int32.toInt J6_l5) K6 (Int32.toInt J193_l6) (lf_A J193_a3) (Int32.toInt J193_l4)) → va_P (dC, dI) vwCl [(wo_3_rr a_this a_this_facts a_this_stack), (wi_0_1600_0 a_arg0 cy g_arg0), (wi_0_13_0 a_this_facts cy g_this_facts), (wi_0_64_0 a_this_stack cy J193_a3)] H → va_D A [(wo_3_rr a_this a_this_facts a_this_stack), (wi_0_1600_0 a_arg0 cy g_arg0), (wi_0_13_0 a_this_facts cy g_this_facts), (wi_0_64_0 a_this_stack cy J193_a3)] → va_S A s.heap H locs → lv_has ls 7 [(0, .ref a_this), (1, .ref a_arg0), (2, .int p1), (3, .int p2), (4, .int J193_l4), (5, .int J6_l5), (6, .int J193_l6)] → W p l e { frames := 2, cells := 0, slots := 0, locals := 44 } s m args below meth c H locs 0 0 Q (F0 m 193 ls []) := by
          intro J193_l6 J193_a3 J193_l4 H locs ls hK193_p2 hK193_J6_l5 hJ193_l4 hq hP hD hS hl
          unfold F_X3_value_193 at hq
          obtain ⟨z10, ez10⟩ : ∃ y : Int32, y = J6_l5 + 1 := ⟨_, rfl⟩
          refine lv_iinc (v := z10) (lv' := [(5, .int z10), (0, .ref a_this), (1, .ref a_arg0), (2, .int p1), (3, .int p2), (4, .int J193_l4), (6, .int J193_l6)]) hx hb dX3_value_193 hl (k := 5) rfl (by rw [ez10]; rfl) (Nat.le_of_ble_eq_true rfl) rfl (fun ls hl => ?_)
          have h11 := ib_add hK193_J6_l5 (ib_c 1 1 1 rfl) rfl
          rw [← ez10] at h11
          have h12 : ib z10 1 1600 := ib_w 1 1600 h11.1 rfl
          have Ez10 := lf_add h11.2 (lf_rf J6_l5) (lf_lc 1 (1 : Int) rfl)
          refine lv_goto (tgt := 6) hx hb dX3_value_196 rfl ?_
          exact ih6 J193_l4 z10 J193_a3 H locs ls (ib_w 0 64 hJ193_l4 rfl) (ib_w 0 1600 h12 rfl) (by rw [← hK6]; rw [lf_u Ez10]; exact hq) (by have := h11.2; have : (1 : Int32).toInt = 1 := rfl; omega) hP hD hS (lv_sub hl [1, 2, 3, 4, 5, 0] rfl)
        have jn154 : ∀ (J154_l6 : Int32) (H : Heap) (locs : List Loc) (ls : Array Slot), ib p2 1 2147483647 → ib J6_l4 0 64 → ib J6_l5 0 1599 → ib J154_l6 (-2147483648) (-14) → (O = F_X3_value_154 (Int32.toInt J6_l4) (Int32.toInt J6_l5) (lf_A J6_a3) K6 (Int32.toInt J154_l6)) → va_P (dC, dI) vwCl [(wo_3_rr a_this a_this_facts a_this_stack), (wi_0_1600_0 a_arg0 cy g_arg0), (wi_0_13_0 a_this_facts cy g_this_facts), (wi_0_64_0 a_this_stack cy J6_a3)] H → va_D A [(wo_3_rr a_this a_this_facts a_this_stack), (wi_0_1600_0 a_arg0 cy g_arg0), (wi_0_13_0 a_this_facts cy g_this_facts), (wi_0_64_0 a_this_stack cy J6_a3)] → va_S A s.heap H locs → lv_has ls 7 [(0, .ref a_this), (1, .ref a_arg0), (2, .int p1), (3, .int p2), (4, .int J6_l4), (5, .int J6_l5), (6, .int J154_l6)] → W p l e { frames := 2, cells := 0, slots := 0, locals := 44 } s m args below meth c H locs 0 0 Q (F0 m 154 ls []) := by
          as_aux_lemma =>
            intro J154_l6 H locs ls hK154_p2 hK154_J6_l4 hK154_J6_l5 hJ154_l6 hq hP hD hS hl
            unfold F_X3_value_154 at hq
            refine lv_iload hx hb dX3_value_154 (lv_at hl 4 rfl) ?_
            refine lv_iconst (v := 1) hx hb dX3_value_156 rfl ?_
            refine lv_icmp_le (tgt := 193) hx hb dX3_value_157 rfl (fun c13 => ?_) (fun c13 => ?_)
            · replace hq := lf_pos hq (lf_le (lf_rf J6_l4) (lf_lc 1 (1 : Int) rfl) c13)
              have h14 := ib_le hK154_J6_l4 (ib_c 1 1 1 rfl) c13
              have h15 : ib J6_l4 0 1 := ib_w 0 1 h14.1 rfl
              exact jn193 J154_l6 J6_a3 J6_l4 H locs ls (ib_w 1 2147483647 hK154_p2 rfl) (ib_w 0 1599 hK154_J6_l5 rfl) (ib_w 0 64 h15 rfl) (by exact hq) hP hD hS (lv_sub hl [0, 1, 2, 3, 4, 5, 6] rfl)
            · as_aux_lemma =>
                replace hq := lf_neg hq (lf_nle (lf_rf J6_l4) (lf_lc 1 (1 : Int) rfl) c13)
                have h16 := ib_nle hK154_J6_l4 (ib_c 1 1 1 rfl) c13
                have h17 : ib J6_l4 2 64 := ib_w 2 64 h16.1 rfl
                obtain ⟨z18, ez18⟩ : ∃ y : Int32, y = J6_l4 + (-1) := ⟨_, rfl⟩
                refine lv_iinc (v := z18) (lv' := [(4, .int z18), (0, .ref a_this), (1, .ref a_arg0), (2, .int p1), (3, .int p2), (5, .int J6_l5), (6, .int J154_l6)]) hx hb dX3_value_160 hl (k := 4) rfl (by rw [ez18]; rfl) (Nat.le_of_ble_eq_true rfl) rfl (fun ls hl => ?_)
                have h19 := ib_add h17 (ib_c (-1) (-1) (-1) rfl) rfl
                rw [← ez18] at h19
                have h20 : ib z18 1 63 := ib_w 1 63 h19.1 rfl
                have Ez18 := lf_add h19.2 (lf_rf J6_l4) (lf_lc (-1) (-1 : Int) rfl)
                refine lv_aload_n hx hb dX3_value_163 rfl (lv_at hl 1 rfl) ?_
                refine k_get C0 fg_X3_15 hP 0 rfl rfl dX3_value_164 ?_
                refine lv_iload hx hb dX3_value_167 (lv_at hl 0 rfl) ?_
                refine lv_iconst (v := 1) hx hb dX3_value_169 rfl ?_
                refine lv_isub hx hb dX3_value_170 ?_
                refine lv_topi (fun z21 ez21 => ?_)
                have h22 := ib_sub h20 (ib_c 1 1 1 rfl) rfl
                rw [← ez21] at h22
                have h23 : ib z21 0 62 := ib_w 0 62 h22.1 rfl
                have Ez21 := lf_sub h22.2 Ez18 (lf_lc 1 (1 : Int) rfl)
                refine lv_iload hx hb dX3_value_171 (lv_at hl 6 rfl) ?_
                refine lv_aload_n hx hb dX3_value_173 rfl (lv_at hl 1 rfl) ?_
                refine k_get C0 fg_X3_15 hP 0 rfl rfl dX3_value_174 ?_
                refine lv_iload hx hb dX3_value_177 (lv_at hl 0 rfl) ?_
                refine lv_iconst (v := 1) hx hb dX3_value_179 rfl ?_
                refine lv_isub hx hb dX3_value_180 ?_
                refine lv_topi (fun z24 ez24 => ?_)
                obtain rfl : z21 = z24 := ez21.trans ez24.symm
                refine va_iald hx hb C0.2.2.2.2.2.1 hP 3 0 rfl rfl (ib_in 64 h23 rfl) dX3_value_181 ?_
                refine lv_topi (fun z25 ez25 => ?_)
                have Ez25 := lf_ld ez25 (lf_ra J6_a3) Ez21
                refine lv_aload_n hx hb dX3_value_182 rfl (lv_at hl 1 rfl) ?_
                refine k_get C0 fg_X3_15 hP 0 rfl rfl dX3_value_183 ?_
                refine lv_iload hx hb dX3_value_186 (lv_at hl 0 rfl) ?_
                refine va_iald hx hb C0.2.2.2.2.2.1 hP 3 0 rfl rfl (ib_in 64 h20 rfl) dX3_value_188 ?_
                refine lv_topi (fun z26 ez26 => ?_)
                have Ez26 := lf_ld ez26 (lf_ra J6_a3) Ez18
                refine k_jim hP hD hS hA [] [true, true, true, true] rfl rfl rfl 0 0 (Nat.le_of_ble_eq_true rfl) (Nat.le_of_ble_eq_true rfl) (fun hPc hDc => k_runS (As := [.int J154_l6, .int z25, .int z26]) (rest := [.int z21, .ref a_this_stack]) C0 hZ hS hA (s_X3_operate l dC dI cy sq J154_l6 z25 z26 ) mS_X3_18 hPc hDc hl rfl rfl (Nat.le_of_ble_eq_true rfl) ⟨(Nat.le_of_ble_eq_true rfl), (Nat.le_of_ble_eq_true rfl)⟩ ⟨(Nat.le_of_ble_eq_true rfl), (Nat.le_of_ble_eq_true rfl)⟩ dX3_value_189) (fun r27 u28 H locs hw hP hD hS => ?_)
                try dsimp only at hP hD hw
                replace hP : va_P (dC, dI) vwCl [(wo_3_rr a_this a_this_facts a_this_stack), (wi_0_1600_0 a_arg0 cy g_arg0), (wi_0_13_0 a_this_facts cy g_this_facts), (wi_0_64_0 a_this_stack cy J6_a3)] H := hP
                replace hD := k_D hP hD
                have h29 := hw
                have h29 := by have h9 := h29; rw [lf_u Ez25] at h9; rw [lf_u Ez26] at h9; exact h9
                replace hq := lf_b1 hq h29
                refine va_iast hx hb C0.2.2.2.2.2.1 hP hD hS 3 0 rfl rfl (ib_in 64 h23 rfl) dX3_value_192 (fun H locs hP hD hS => ?_)
                replace hP : va_P (dC, dI) vwCl [(wo_3_rr a_this a_this_facts a_this_stack), (wi_0_1600_0 a_arg0 cy g_arg0), (wi_0_13_0 a_this_facts cy g_this_facts), (wi_0_64_0 a_this_stack cy (upd J6_a3 (Int32.toNatClampNeg z21) r27))] H := hP
                replace hD := k_D hP hD
                generalize ef30 : upd J6_a3 (Int32.toNatClampNeg z21) r27 = f30 at hP hD
                have Ef30 := lf_st ef30 (lf_ra J6_a3) Ez21 (lf_rf r27)
                exact jn193 J154_l6 f30 z18 H locs ls (ib_w 1 2147483647 hK154_p2 rfl) (ib_w 0 1599 hK154_J6_l5 rfl) (ib_w 0 64 h20 rfl) (by rw [lf_ua Ef30]; rw [lf_u Ez18]; exact hq) hP hD hS (lv_sub hl [1, 2, 3, 4, 0, 5, 6] rfl)
        have jn150 : ∀ (J150_l6 : Int32) (J150_s1 : Int32) (J150_s0 : Int32) (H : Heap) (locs : List Loc) (ls : Array Slot), ib p2 1 2147483647 → ib J6_l4 1 64 → ib J6_l5 0 1599 → ib J150_l6 (-32) (-32) → ib J150_s1 0 63 → ib J150_s0 0 1 → (O = F_X3_value_150 (Int32.toInt J6_l4) (Int32.toInt J6_l5) (lf_A J6_a3) K6 (Int32.toInt J150_l6) (Int32.toInt J150_s1) (Int32.toInt J150_s0)) → va_P (dC, dI) vwCl [(wo_3_rr a_this a_this_facts a_this_stack), (wi_0_1600_0 a_arg0 cy g_arg0), (wi_0_13_0 a_this_facts cy g_this_facts), (wi_0_64_0 a_this_stack cy J6_a3)] H → va_D A [(wo_3_rr a_this a_this_facts a_this_stack), (wi_0_1600_0 a_arg0 cy g_arg0), (wi_0_13_0 a_this_facts cy g_this_facts), (wi_0_64_0 a_this_stack cy J6_a3)] → va_S A s.heap H locs → lv_has ls 7 [(0, .ref a_this), (1, .ref a_arg0), (2, .int p1), (3, .int p2), (4, .int J6_l4), (5, .int J6_l5), (6, .int J150_l6)] → W p l e { frames := 2, cells := 0, slots := 0, locals := 44 } s m args below meth c H locs 0 0 Q (F0 m 150 ls [.int J150_s0, .int J150_s1, .ref a_this_stack]) := by
          intro J150_l6 J150_s1 J150_s0 H locs ls hK150_p2 hK150_J6_l4 hK150_J6_l5 hJ150_l6 hJ150_s1 hJ150_s0 hq hP hD hS hl
          unfold F_X3_value_150 at hq
          refine va_iast hx hb C0.2.2.2.2.2.1 hP hD hS 3 0 rfl rfl (ib_in 64 hJ150_s1 rfl) dX3_value_150 (fun H locs hP hD hS => ?_)
          replace hP : va_P (dC, dI) vwCl [(wo_3_rr a_this a_this_facts a_this_stack), (wi_0_1600_0 a_arg0 cy g_arg0), (wi_0_13_0 a_this_facts cy g_this_facts), (wi_0_64_0 a_this_stack cy (upd J6_a3 (Int32.toNatClampNeg J150_s1) J150_s0))] H := hP
          replace hD := k_D hP hD
          generalize ef31 : upd J6_a3 (Int32.toNatClampNeg J150_s1) J150_s0 = f31 at hP hD
          have Ef31 := lf_st ef31 (lf_ra J6_a3) (lf_rf J150_s1) (lf_rf J150_s0)
          refine lv_goto (tgt := 193) hx hb dX3_value_151 rfl ?_
          exact jn193 J150_l6 f31 J6_l4 H locs ls (ib_w 1 2147483647 hK150_p2 rfl) (ib_w 0 1599 hK150_J6_l5 rfl) (ib_w 0 64 hK150_J6_l4 rfl) (by rw [lf_ua Ef31]; exact hq) hP hD hS (lv_sub hl [0, 1, 2, 3, 4, 5, 6] rfl)
        have jn106 : ∀ (J106_l6 : Int32) (H : Heap) (locs : List Loc) (ls : Array Slot), ib p2 1 2147483647 → ib J6_l4 0 64 → ib J6_l5 0 1599 → ib J106_l6 (-2147483648) (-14) → (O = F_X3_value_106 (lf_A g_this_facts) (Int32.toInt J6_l4) (Int32.toInt J6_l5) (lf_A J6_a3) K6 (Int32.toInt J106_l6)) → va_P (dC, dI) vwCl [(wo_3_rr a_this a_this_facts a_this_stack), (wi_0_1600_0 a_arg0 cy g_arg0), (wi_0_13_0 a_this_facts cy g_this_facts), (wi_0_64_0 a_this_stack cy J6_a3)] H → va_D A [(wo_3_rr a_this a_this_facts a_this_stack), (wi_0_1600_0 a_arg0 cy g_arg0), (wi_0_13_0 a_this_facts cy g_this_facts), (wi_0_64_0 a_this_stack cy J6_a3)] → va_S A s.heap H locs → lv_has ls 7 [(0, .ref a_this), (1, .ref a_arg0), (2, .int p1), (3, .int p2), (4, .int J6_l4), (5, .int J6_l5), (6, .int J106_l6)] → W p l e { frames := 2, cells := 0, slots := 0, locals := 44 } s m args below meth c H locs 0 0 Q (F0 m 106 ls []) := by
          as_aux_lemma =>
            intro J106_l6 H locs ls hK106_p2 hK106_J6_l4 hK106_J6_l5 hJ106_l6 hq hP hD hS hl
            unfold F_X3_value_106 at hq
            refine lv_iload hx hb dX3_value_106 (lv_at hl 4 rfl) ?_
            refine lv_if_le (tgt := 154) hx hb dX3_value_108 rfl (fun c32 => ?_) (fun c32 => ?_)
            · replace hq := lf_pos hq (lf_le (lf_rf J6_l4) (lf_lc 0 (0 : Int) rfl) c32)
              have h33 := ib_le hK106_J6_l4 (ib_c 0 0 0 rfl) c32
              have h34 : ib J6_l4 0 0 := ib_w 0 0 h33.1 rfl
              exact jn154 J106_l6 H locs ls (ib_w 1 2147483647 hK106_p2 rfl) (ib_w 0 64 h34 rfl) (ib_w 0 1599 hK106_J6_l5 rfl) (ib_w (-2147483648) (-14) hJ106_l6 rfl) (by exact hq) hP hD hS (lv_sub hl [0, 1, 2, 3, 4, 5, 6] rfl)
            · as_aux_lemma =>
                replace hq := lf_neg hq (lf_nle (lf_rf J6_l4) (lf_lc 0 (0 : Int) rfl) c32)
                have h35 := ib_nle hK106_J6_l4 (ib_c 0 0 0 rfl) c32
                have h36 : ib J6_l4 1 64 := ib_w 1 64 h35.1 rfl
                refine lv_iload hx hb dX3_value_111 (lv_at hl 6 rfl) ?_
                refine lv_bipush (v := (-32)) hx hb dX3_value_113 rfl ?_
                refine lv_icmp_ne (tgt := 154) hx hb dX3_value_115 rfl (fun c37 => ?_) (fun c37 => ?_)
                · replace hq := lf_neg hq (lf_ne (lf_rf J106_l6) (lf_lc (-32) (-32 : Int) rfl) c37)
                  exact jn154 J106_l6 H locs ls (ib_w 1 2147483647 hK106_p2 rfl) (ib_w 0 64 h36 rfl) (ib_w 0 1599 hK106_J6_l5 rfl) (ib_w (-2147483648) (-14) hJ106_l6 rfl) (by exact hq) hP hD hS (lv_sub hl [0, 1, 2, 3, 4, 5, 6] rfl)
                · as_aux_lemma =>
                    replace hq := lf_pos hq (lf_eq (lf_rf J106_l6) (lf_lc (-32) (-32 : Int) rfl) c37)
                    have h38 := ib_eq hJ106_l6 (ib_c (-32) (-32) (-32) rfl) c37
                    have h39 : ib J106_l6 (-32) (-32) := ib_w (-32) (-32) h38.1 rfl
                    refine lv_aload_n hx hb dX3_value_118 rfl (lv_at hl 0 rfl) ?_
                    refine k_get C0 fg_X3_15 hP 0 rfl rfl dX3_value_119 ?_
                    refine lv_iload hx hb dX3_value_122 (lv_at hl 4 rfl) ?_
                    refine lv_iconst (v := 1) hx hb dX3_value_124 rfl ?_
                    refine lv_isub hx hb dX3_value_125 ?_
                    refine lv_topi (fun z40 ez40 => ?_)
                    have h41 := ib_sub h36 (ib_c 1 1 1 rfl) rfl
                    rw [← ez40] at h41
                    have h42 : ib z40 0 63 := ib_w 0 63 h41.1 rfl
                    have Ez40 := lf_sub h41.2 (lf_rf J6_l4) (lf_lc 1 (1 : Int) rfl)
                    refine lv_aload_n hx hb dX3_value_126 rfl (lv_at hl 0 rfl) ?_
                    refine k_get C0 fg_X3_15 hP 0 rfl rfl dX3_value_127 ?_
                    refine lv_iload hx hb dX3_value_130 (lv_at hl 4 rfl) ?_
                    refine lv_iconst (v := 1) hx hb dX3_value_132 rfl ?_
                    refine lv_isub hx hb dX3_value_133 ?_
                    refine lv_topi (fun z43 ez43 => ?_)
                    obtain rfl : z40 = z43 := ez40.trans ez43.symm
                    refine va_iald hx hb C0.2.2.2.2.2.1 hP 3 0 rfl rfl (ib_in 64 h42 rfl) dX3_value_134 ?_
                    refine lv_topi (fun z44 ez44 => ?_)
                    have Ez44 := lf_ld ez44 (lf_ra J6_a3) Ez40
                    refine lv_aload_n hx hb dX3_value_135 rfl (lv_at hl 0 rfl) ?_
                    refine k_get C0 fg_X3_9 hP 0 rfl rfl dX3_value_136 ?_
                    refine lv_bipush (v := 12) hx hb dX3_value_139 rfl ?_
                    refine va_iald hx hb C0.2.2.2.2.2.1 hP 2 0 rfl rfl (k_in 12 13 rfl) dX3_value_141 ?_
                    refine lv_topi (fun z45 ez45 => ?_)
                    have Ez45 := lf_ld ez45 (lf_ra g_this_facts) (lf_lc 12 (12 : Int) rfl)
                    refine lv_icmp_ne (tgt := 149) hx hb dX3_value_142 rfl (fun c46 => ?_) (fun c46 => ?_)
                    · replace hq := lf_neg hq (lf_ne Ez44 Ez45 c46)
                      refine lv_iconst (v := 0) hx hb dX3_value_149 rfl ?_
                      exact jn150 J106_l6 z40 0 H locs ls (ib_w 1 2147483647 hK106_p2 rfl) (ib_w 1 64 h36 rfl) (ib_w 0 1599 hK106_J6_l5 rfl) (ib_w (-32) (-32) h39 rfl) (ib_w 0 63 h42 rfl) (ib_w 0 1 (ib_c 0 0 0 rfl) rfl) (by rw [lf_u Ez40]; try simp only [show (0 : Int32).toInt = (0 : Int) from rfl]; exact hq) hP hD hS (lv_sub hl [0, 1, 2, 3, 4, 5, 6] rfl)
                    · replace hq := lf_pos hq (lf_eq Ez44 Ez45 c46)
                      have h47 := ib_eq (ib_any z44) (ib_any z45) c46
                      refine lv_iconst (v := 1) hx hb dX3_value_145 rfl ?_
                      refine lv_goto (tgt := 150) hx hb dX3_value_146 rfl ?_
                      exact jn150 J106_l6 z40 1 H locs ls (ib_w 1 2147483647 hK106_p2 rfl) (ib_w 1 64 h36 rfl) (ib_w 0 1599 hK106_J6_l5 rfl) (ib_w (-32) (-32) h39 rfl) (ib_w 0 63 h42 rfl) (ib_w 0 1 (ib_c 1 1 1 rfl) rfl) (by rw [lf_u Ez40]; try simp only [show (1 : Int32).toInt = (1 : Int) from rfl]; exact hq) hP hD hS (lv_sub hl [0, 1, 2, 3, 4, 5, 6] rfl)
        have jn64 : ∀ (J64_l6 : Int32) (J64_s0 : Int32) (H : Heap) (locs : List Loc) (ls : Array Slot), ib p2 1 2147483647 → ib J6_l4 0 63 → ib J6_l5 0 1599 → ib J64_l6 (-13) 2147483647 → (O = F_X3_value_64 (Int32.toInt J6_l4) (Int32.toInt J6_l5) (lf_A J6_a3) K6 (Int32.toInt J64_l6) (Int32.toInt J64_s0)) → va_P (dC, dI) vwCl [(wo_3_rr a_this a_this_facts a_this_stack), (wi_0_1600_0 a_arg0 cy g_arg0), (wi_0_13_0 a_this_facts cy g_this_facts), (wi_0_64_0 a_this_stack cy J6_a3)] H → va_D A [(wo_3_rr a_this a_this_facts a_this_stack), (wi_0_1600_0 a_arg0 cy g_arg0), (wi_0_13_0 a_this_facts cy g_this_facts), (wi_0_64_0 a_this_stack cy J6_a3)] → va_S A s.heap H locs → lv_has ls 7 [(0, .ref a_this), (1, .ref a_arg0), (2, .int p1), (3, .int p2), (4, .int J6_l4), (5, .int J6_l5), (6, .int J64_l6)] → W p l e { frames := 2, cells := 0, slots := 0, locals := 44 } s m args below meth c H locs 0 0 Q (F0 m 64 ls [.int J64_s0, .int J6_l4, .ref a_this_stack]) := by
          intro J64_l6 J64_s0 H locs ls hK64_p2 hK64_J6_l4 hK64_J6_l5 hJ64_l6 hq hP hD hS hl
          unfold F_X3_value_64 at hq
          refine va_iast hx hb C0.2.2.2.2.2.1 hP hD hS 3 0 rfl rfl (ib_in 64 hK64_J6_l4 rfl) dX3_value_64 (fun H locs hP hD hS => ?_)
          replace hP : va_P (dC, dI) vwCl [(wo_3_rr a_this a_this_facts a_this_stack), (wi_0_1600_0 a_arg0 cy g_arg0), (wi_0_13_0 a_this_facts cy g_this_facts), (wi_0_64_0 a_this_stack cy (upd J6_a3 (Int32.toNatClampNeg J6_l4) J64_s0))] H := hP
          replace hD := k_D hP hD
          generalize ef48 : upd J6_a3 (Int32.toNatClampNeg J6_l4) J64_s0 = f48 at hP hD
          have Ef48 := lf_st ef48 (lf_ra J6_a3) (lf_rf J6_l4) (lf_rf J64_s0)
          obtain ⟨z49, ez49⟩ : ∃ y : Int32, y = J6_l4 + 1 := ⟨_, rfl⟩
          refine lv_iinc (v := z49) (lv' := [(4, .int z49), (0, .ref a_this), (1, .ref a_arg0), (2, .int p1), (3, .int p2), (5, .int J6_l5), (6, .int J64_l6)]) hx hb dX3_value_65 hl (k := 4) rfl (by rw [ez49]; rfl) (Nat.le_of_ble_eq_true rfl) rfl (fun ls hl => ?_)
          have h50 := ib_add hK64_J6_l4 (ib_c 1 1 1 rfl) rfl
          rw [← ez49] at h50
          have h51 : ib z49 1 64 := ib_w 1 64 h50.1 rfl
          have Ez49 := lf_add h50.2 (lf_rf J6_l4) (lf_lc 1 (1 : Int) rfl)
          refine lv_goto (tgt := 193) hx hb dX3_value_68 rfl ?_
          exact jn193 J64_l6 f48 z49 H locs ls (ib_w 1 2147483647 hK64_p2 rfl) (ib_w 0 1599 hK64_J6_l5 rfl) (ib_w 0 64 h51 rfl) (by rw [lf_ua Ef48]; rw [lf_u Ez49]; exact hq) hP hD hS (lv_sub hl [1, 2, 3, 4, 0, 5, 6] rfl)
        refine lv_iload hx hb dX3_value_6 (lv_at hl 5 rfl) ?_
        refine lv_iload_n hx hb dX3_value_8 rfl (lv_at hl 3 rfl) ?_
        refine lv_icmp_ge (tgt := 199) hx hb dX3_value_9 rfl (fun c52 => ?_) (fun c52 => ?_)
        · replace hq := lf_pos hq (lf_le (lf_rf p2) (lf_rf J6_l5) c52)
          have h53 := ib_le (ib_any p2) hJ6_l5 c52
          have h54 : ib p2 (-2147483648) 1600 := ib_w (-2147483648) 1600 h53.1 rfl
          exact jn199 J6_l4 J6_l5 J6_a3 H locs ls (ib_w 0 64 hJ6_l4 rfl) (ib_w 0 1600 hJ6_l5 rfl) (by exact hq) hP hD hS (lv_sub hl [0, 1, 2, 3, 4, 5] rfl)
        · as_aux_lemma =>
            replace hq := lf_neg hq (lf_nle (lf_rf p2) (lf_rf J6_l5) c52)
            have h55 := ib_nle (ib_any p2) hJ6_l5 c52
            have h56 : ib p2 1 2147483647 := ib_w 1 2147483647 h55.1 rfl
            refine lv_iload hx hb dX3_value_12 (lv_at hl 5 rfl) ?_
            refine lv_aload_n hx hb dX3_value_14 rfl (lv_at hl 1 rfl) ?_
            refine va_alen hx hb C0.2.2.2.2.2.1 hP 1 0 rfl rfl (v := 1600) (show Int32.ofNat 1600 = 1600 by decide) dX3_value_15 ?_
            refine lv_icmp_ge (tgt := 199) hx hb dX3_value_16 rfl (fun c57 => ?_) (fun c57 => ?_)
            · replace hq := lf_pos hq (lf_le (lf_lc 1600 (1600 : Int) rfl) (lf_rf J6_l5) c57)
              have h58 := ib_le (ib_c 1600 1600 1600 rfl) hJ6_l5 c57
              have h59 : ib J6_l5 1600 1600 := ib_w 1600 1600 h58.2 rfl
              exact jn199 J6_l4 J6_l5 J6_a3 H locs ls (ib_w 0 64 hJ6_l4 rfl) (ib_w 0 1600 h59 rfl) (by exact hq) hP hD hS (lv_sub hl [0, 1, 2, 3, 4, 5] rfl)
            · as_aux_lemma =>
                replace hq := lf_neg hq (lf_nle (lf_lc 1600 (1600 : Int) rfl) (lf_rf J6_l5) c57)
                have h60 := ib_nle (ib_c 1600 1600 1600 rfl) hJ6_l5 c57
                have h61 : ib J6_l5 0 1599 := ib_w 0 1599 h60.2 rfl
                refine lv_aload_n hx hb dX3_value_19 rfl (lv_at hl 1 rfl) ?_
                refine lv_iload hx hb dX3_value_20 (lv_at hl 5 rfl) ?_
                refine va_iald hx hb C0.2.2.2.2.2.1 hP 1 0 rfl rfl (ib_in 1600 h61 rfl) dX3_value_22 ?_
                refine lv_topi (fun z62 ez62 => ?_)
                have Ez62 := lf_ld ez62 (lf_ra g_arg0) (lf_rf J6_l5)
                refine lv_istore (lv' := [(6, .int z62), (0, .ref a_this), (1, .ref a_arg0), (2, .int p1), (3, .int p2), (4, .int J6_l4), (5, .int J6_l5)]) hx hb dX3_value_23 hl (Nat.le_of_ble_eq_true rfl) rfl (fun ls hl => ?_)
                refine lv_iload hx hb dX3_value_25 (lv_at hl 0 rfl) ?_
                refine lv_bipush (v := (-13)) hx hb dX3_value_27 rfl ?_
                refine lv_icmp_lt (tgt := 71) hx hb dX3_value_29 rfl (fun c63 => ?_) (fun c63 => ?_)
                · as_aux_lemma =>
                    replace hq := lf_pos hq (lf_lt Ez62 (lf_lc (-13) (-13 : Int) rfl) c63)
                    have h64 := ib_lt (ib_any z62) (ib_c (-13) (-13) (-13) rfl) c63
                    have h65 : ib z62 (-2147483648) (-14) := ib_w (-2147483648) (-14) h64.1 rfl
                    refine lv_iload hx hb dX3_value_71 (lv_at hl 5 rfl) ?_
                    refine lv_if_le (tgt := 106) hx hb dX3_value_73 rfl (fun c66 => ?_) (fun c66 => ?_)
                    · replace hq := lf_pos hq (lf_le (lf_rf J6_l4) (lf_lc 0 (0 : Int) rfl) c66)
                      have h67 := ib_le hJ6_l4 (ib_c 0 0 0 rfl) c66
                      have h68 : ib J6_l4 0 0 := ib_w 0 0 h67.1 rfl
                      exact jn106 z62 H locs ls (ib_w 1 2147483647 h56 rfl) (ib_w 0 64 h68 rfl) (ib_w 0 1599 h61 rfl) (ib_w (-2147483648) (-14) h65 rfl) (by rw [lf_u Ez62]; exact hq) hP hD hS (lv_sub hl [1, 2, 3, 4, 5, 6, 0] rfl)
                    · as_aux_lemma =>
                        replace hq := lf_neg hq (lf_nle (lf_rf J6_l4) (lf_lc 0 (0 : Int) rfl) c66)
                        have h69 := ib_nle hJ6_l4 (ib_c 0 0 0 rfl) c66
                        have h70 : ib J6_l4 1 64 := ib_w 1 64 h69.1 rfl
                        refine lv_iload hx hb dX3_value_76 (lv_at hl 0 rfl) ?_
                        refine lv_bipush (v := (-31)) hx hb dX3_value_78 rfl ?_
                        refine lv_icmp_ne (tgt := 106) hx hb dX3_value_80 rfl (fun c71 => ?_) (fun c71 => ?_)
                        · replace hq := lf_neg hq (lf_ne Ez62 (lf_lc (-31) (-31 : Int) rfl) c71)
                          exact jn106 z62 H locs ls (ib_w 1 2147483647 h56 rfl) (ib_w 0 64 h70 rfl) (ib_w 0 1599 h61 rfl) (ib_w (-2147483648) (-14) h65 rfl) (by rw [lf_u Ez62]; exact hq) hP hD hS (lv_sub hl [1, 2, 3, 4, 5, 6, 0] rfl)
                        · as_aux_lemma =>
                            replace hq := lf_pos hq (lf_eq Ez62 (lf_lc (-31) (-31 : Int) rfl) c71)
                            have h72 := ib_eq h65 (ib_c (-31) (-31) (-31) rfl) c71
                            have h73 : ib z62 (-31) (-31) := ib_w (-31) (-31) h72.1 rfl
                            refine lv_aload_n hx hb dX3_value_83 rfl (lv_at hl 1 rfl) ?_
                            refine k_get C0 fg_X3_15 hP 0 rfl rfl dX3_value_84 ?_
                            refine lv_iload hx hb dX3_value_87 (lv_at hl 5 rfl) ?_
                            refine lv_iconst (v := 1) hx hb dX3_value_89 rfl ?_
                            refine lv_isub hx hb dX3_value_90 ?_
                            refine lv_topi (fun z74 ez74 => ?_)
                            have h75 := ib_sub h70 (ib_c 1 1 1 rfl) rfl
                            rw [← ez74] at h75
                            have h76 : ib z74 0 63 := ib_w 0 63 h75.1 rfl
                            have Ez74 := lf_sub h75.2 (lf_rf J6_l4) (lf_lc 1 (1 : Int) rfl)
                            refine lv_iconst (v := 1) hx hb dX3_value_91 rfl ?_
                            refine lv_aload_n hx hb dX3_value_92 rfl (lv_at hl 1 rfl) ?_
                            refine k_get C0 fg_X3_15 hP 0 rfl rfl dX3_value_93 ?_
                            refine lv_iload hx hb dX3_value_96 (lv_at hl 5 rfl) ?_
                            refine lv_iconst (v := 1) hx hb dX3_value_98 rfl ?_
                            refine lv_isub hx hb dX3_value_99 ?_
                            refine lv_topi (fun z77 ez77 => ?_)
                            obtain rfl : z74 = z77 := ez74.trans ez77.symm
                            refine va_iald hx hb C0.2.2.2.2.2.1 hP 3 0 rfl rfl (ib_in 64 h76 rfl) dX3_value_100 ?_
                            refine lv_topi (fun z78 ez78 => ?_)
                            have Ez78 := lf_ld ez78 (lf_ra J6_a3) Ez74
                            refine lv_isub hx hb dX3_value_101 ?_
                            refine lv_topi (fun z79 ez79 => ?_)
                            have Ez79 := lf_op lf_isub ez79 (lf_lc 1 (1 : Int) rfl) Ez78
                            refine va_iast hx hb C0.2.2.2.2.2.1 hP hD hS 3 0 rfl rfl (ib_in 64 h76 rfl) dX3_value_102 (fun H locs hP hD hS => ?_)
                            replace hP : va_P (dC, dI) vwCl [(wo_3_rr a_this a_this_facts a_this_stack), (wi_0_1600_0 a_arg0 cy g_arg0), (wi_0_13_0 a_this_facts cy g_this_facts), (wi_0_64_0 a_this_stack cy (upd J6_a3 (Int32.toNatClampNeg z74) z79))] H := hP
                            replace hD := k_D hP hD
                            generalize ef80 : upd J6_a3 (Int32.toNatClampNeg z74) z79 = f80 at hP hD
                            have Ef80 := lf_st ef80 (lf_ra J6_a3) Ez74 Ez79
                            refine lv_goto (tgt := 193) hx hb dX3_value_103 rfl ?_
                            exact jn193 z62 f80 J6_l4 H locs ls (ib_w 1 2147483647 h56 rfl) (ib_w 0 1599 h61 rfl) (ib_w 0 64 h70 rfl) (by rw [lf_u Ez62]; rw [lf_ua Ef80]; exact hq) hP hD hS (lv_sub hl [1, 2, 3, 4, 5, 6, 0] rfl)
                · as_aux_lemma =>
                    replace hq := lf_neg hq (lf_nlt Ez62 (lf_lc (-13) (-13 : Int) rfl) c63)
                    have h81 := ib_nlt (ib_any z62) (ib_c (-13) (-13) (-13) rfl) c63
                    have h82 : ib z62 (-13) 2147483647 := ib_w (-13) 2147483647 h81.1 rfl
                    refine lv_iload hx hb dX3_value_32 (lv_at hl 5 rfl) ?_
                    refine lv_bipush (v := 64) hx hb dX3_value_34 rfl ?_
                    refine lv_icmp_ge (tgt := 193) hx hb dX3_value_36 rfl (fun c83 => ?_) (fun c83 => ?_)
                    · replace hq := lf_pos hq (lf_le (lf_lc 64 (64 : Int) rfl) (lf_rf J6_l4) c83)
                      have h84 := ib_le (ib_c 64 64 64 rfl) hJ6_l4 c83
                      have h85 : ib J6_l4 64 64 := ib_w 64 64 h84.2 rfl
                      exact jn193 z62 J6_a3 J6_l4 H locs ls (ib_w 1 2147483647 h56 rfl) (ib_w 0 1599 h61 rfl) (ib_w 0 64 h85 rfl) (by rw [lf_u Ez62]; exact hq) hP hD hS (lv_sub hl [1, 2, 3, 4, 5, 6, 0] rfl)
                    · as_aux_lemma =>
                        replace hq := lf_neg hq (lf_nle (lf_lc 64 (64 : Int) rfl) (lf_rf J6_l4) c83)
                        have h86 := ib_nle (ib_c 64 64 64 rfl) hJ6_l4 c83
                        have h87 : ib J6_l4 0 63 := ib_w 0 63 h86.2 rfl
                        refine lv_aload_n hx hb dX3_value_39 rfl (lv_at hl 1 rfl) ?_
                        refine k_get C0 fg_X3_15 hP 0 rfl rfl dX3_value_40 ?_
                        refine lv_iload hx hb dX3_value_43 (lv_at hl 5 rfl) ?_
                        refine lv_iload hx hb dX3_value_45 (lv_at hl 0 rfl) ?_
                        refine lv_if_lt (tgt := 55) hx hb dX3_value_47 rfl (fun c88 => ?_) (fun c88 => ?_)
                        · replace hq := lf_pos hq (lf_lt Ez62 (lf_lc 0 (0 : Int) rfl) c88)
                          have h89 := ib_lt h82 (ib_c 0 0 0 rfl) c88
                          have h90 : ib z62 (-13) (-1) := ib_w (-13) (-1) h89.1 rfl
                          refine lv_aload_n hx hb dX3_value_55 rfl (lv_at hl 1 rfl) ?_
                          refine k_get C0 fg_X3_9 hP 0 rfl rfl dX3_value_56 ?_
                          refine lv_iconst (v := (-1)) hx hb dX3_value_59 rfl ?_
                          refine lv_iload hx hb dX3_value_60 (lv_at hl 0 rfl) ?_
                          refine lv_isub hx hb dX3_value_62 ?_
                          refine lv_topi (fun z91 ez91 => ?_)
                          have h92 := ib_sub (ib_c (-1) (-1) (-1) rfl) h90 rfl
                          rw [← ez91] at h92
                          have h93 : ib z91 0 12 := ib_w 0 12 h92.1 rfl
                          have Ez91 := lf_sub h92.2 (lf_lc (-1) (-1 : Int) rfl) Ez62
                          refine va_iald hx hb C0.2.2.2.2.2.1 hP 2 0 rfl rfl (ib_in 13 h93 rfl) dX3_value_63 ?_
                          refine lv_topi (fun z94 ez94 => ?_)
                          have Ez94 := lf_ld ez94 (lf_ra g_this_facts) Ez91
                          exact jn64 z62 z94 H locs ls (ib_w 1 2147483647 h56 rfl) (ib_w 0 63 h87 rfl) (ib_w 0 1599 h61 rfl) (ib_w (-13) 2147483647 h90 rfl) (by rw [lf_u Ez62]; rw [lf_u Ez94]; exact hq) hP hD hS (lv_sub hl [1, 2, 3, 4, 5, 6, 0] rfl)
                        · replace hq := lf_neg hq (lf_nlt Ez62 (lf_lc 0 (0 : Int) rfl) c88)
                          have h95 := ib_nlt h82 (ib_c 0 0 0 rfl) c88
                          have h96 : ib z62 0 2147483647 := ib_w 0 2147483647 h95.1 rfl
                          refine lv_iload hx hb dX3_value_50 (lv_at hl 0 rfl) ?_
                          refine lv_goto (tgt := 64) hx hb dX3_value_52 rfl ?_
                          exact jn64 z62 z62 H locs ls (ib_w 1 2147483647 h56 rfl) (ib_w 0 63 h87 rfl) (ib_w 0 1599 h61 rfl) (ib_w (-13) 2147483647 h96 rfl) (by rw [lf_u Ez62]; exact hq) hP hD hS (lv_sub hl [1, 2, 3, 4, 5, 6, 0] rfl)
  refine lv_iconst (v := 0) hx hb dX3_value_0 rfl ?_
  refine lv_istore (lv' := [(4, .int 0), (0, .ref a_this), (1, .ref a_arg0), (2, .int p1), (3, .int p2)]) hx hb dX3_value_1 hl (Nat.le_of_ble_eq_true rfl) rfl (fun ls hl => ?_)
  refine lv_iload_n hx hb dX3_value_3 rfl (lv_at hl 3 rfl) ?_
  refine lv_istore (lv' := [(5, .int p1), (4, .int 0), (0, .ref a_this), (1, .ref a_arg0), (2, .int p1), (3, .int p2)]) hx hb dX3_value_4 hl (Nat.le_of_ble_eq_true rfl) rfl (fun ls hl => ?_)
  exact jn6 1602 0 p1 g_this_stack H locs ls (ib_w 0 64 (ib_c 0 0 0 rfl) rfl) (ib_w 0 1600 hp1 rfl) (by try simp only [show (0 : Int32).toInt = (0 : Int) from rfl]; exact hq) (by have := hp1; unfold ib at this; omega) hP hD hS (lv_sub hl [2, 3, 4, 5, 1, 0] rfl)
set_option maxHeartbeats 4000000 in
set_option maxRecDepth 100000 in
theorem s_X7_drive (l : Launch) (dC : Nat → ClassId) (dI : Nat → Nat → Nat) (cy : Nat → ClassId) (sq : Nat → Nat) (a_this : Nat) (a_this_machine : Nat) (a_this_machine_facts : Nat) (g_this_machine_facts : Nat → Int32) (a_this_machine_stack : Nat) (g_this_machine_stack : Nat → Int32) (a_this_plan : Nat) (x_this_plan_cycle : Int32) (x_this_plan_green : Int32) (x_this_plan_rule : Int32) (x_this_plan_least : Int32) (x_this_plan_away : Int32) (x_this_plan_statements : Int32) (x_this_plan_kinds : Int32) (a_this_plan_calm : Nat) (a_this_plan_pace : Nat) (a_this_plan_trusts : Nat) (x_this_plan_walkers : Int32) (a_this_plan_kindOf : Nat) (a_this_plan_comesAt : Nat) (a_this_plan_comers : Nat) (a_this_plan_names : Nat) (a_this_plan_code : Nat) (g_this_plan_code : Nat → Int32) (x_this_plan_size : Int32) (a_this_plan_spans : Nat) (g_this_plan_spans : Nat → Int32) (x_this_day : Int32) (a_this_trusts : Nat) (x_this_rule : Int32) (x_this_green : Int32) (x_this_absent : Int32) (x_this_asksReds : Int32) (a_this_cars : Nat) (g_this_cars : Nat → Int32) (a_this_gaps : Nat) (g_this_gaps : Nat → Int32) (a_this_known : Nat) (a_this_left : Nat) (a_this_leaves : Nat) (x_this_pressed : Int32) (x_this_crossed : Int32) (x_this_went : Int32) (x_this_harmed : Int32) (hg_this_plan_spans : ia g_this_plan_spans 6 0 1600) (hx_this_plan_cycle : ib x_this_plan_cycle 1 120) : k_Met l yX7_drive cX7_drive 4 none { frames := 3, cells := 0, slots := 0, locals := 70 } dC dI cy sq [.ref a_this] [(wo_7_rririiiirrrrriiii a_this a_this_machine a_this_plan x_this_day a_this_trusts x_this_rule x_this_green x_this_absent x_this_asksReds a_this_cars a_this_gaps a_this_known a_this_left a_this_leaves x_this_pressed x_this_crossed x_this_went x_this_harmed), (wo_3_rr a_this_machine a_this_machine_facts a_this_machine_stack), (wi_0_13_0 a_this_machine_facts cy g_this_machine_facts), (wo_4_iiiiiiirrrirrrrrir a_this_plan x_this_plan_cycle x_this_plan_green x_this_plan_rule x_this_plan_least x_this_plan_away x_this_plan_statements x_this_plan_kinds a_this_plan_calm a_this_plan_pace a_this_plan_trusts x_this_plan_walkers a_this_plan_kindOf a_this_plan_comesAt a_this_plan_comers a_this_plan_names a_this_plan_code x_this_plan_size a_this_plan_spans), (wi_0_6_0 a_this_plan_spans cy g_this_plan_spans), (wi_0_1600_0 a_this_plan_code cy g_this_plan_code), (wi_0_64_0 a_this_machine_stack cy g_this_machine_stack), (wi_0_320_0 a_this_cars cy g_this_cars), (wi_0_320_0 a_this_gaps cy g_this_gaps)] (k_Qv dC dI (fun (u : (Nat → Int32) × (Nat → Int32) × (Nat → Int32) × (Nat → Int32)) => match u with | (n0, n1, n2, n3) => (F_X7_drive (lf_A g_this_machine_facts) (lf_A g_this_machine_stack) (Int32.toInt x_this_plan_cycle) (lf_A g_this_plan_code) (lf_A g_this_plan_spans) (Int32.toInt x_this_day) (lf_A g_this_cars) (lf_A g_this_gaps) = ((lf_A n0), (lf_A n1), (lf_A n2), (lf_A n3)))) (fun u : (Nat → Int32) × (Nat → Int32) × (Nat → Int32) × (Nat → Int32) => match u with | (n0, n1, n2, n3) => [(wo_7_rririiiirrrrriiii a_this a_this_machine a_this_plan x_this_day a_this_trusts x_this_rule x_this_green x_this_absent x_this_asksReds a_this_cars a_this_gaps a_this_known a_this_left a_this_leaves x_this_pressed x_this_crossed x_this_went x_this_harmed), (wo_3_rr a_this_machine a_this_machine_facts a_this_machine_stack), (wi_0_13_0 a_this_machine_facts cy n0), (wo_4_iiiiiiirrrirrrrrir a_this_plan x_this_plan_cycle x_this_plan_green x_this_plan_rule x_this_plan_least x_this_plan_away x_this_plan_statements x_this_plan_kinds a_this_plan_calm a_this_plan_pace a_this_plan_trusts x_this_plan_walkers a_this_plan_kindOf a_this_plan_comesAt a_this_plan_comers a_this_plan_names a_this_plan_code x_this_plan_size a_this_plan_spans), (wi_0_6_0 a_this_plan_spans cy g_this_plan_spans), (wi_0_1600_0 a_this_plan_code cy g_this_plan_code), (wi_0_64_0 a_this_machine_stack cy n1), (wi_0_320_0 a_this_cars cy n2), (wi_0_320_0 a_this_gaps cy n3)])) := by
  refine k_ofW2 (by decide +kernel) (Nat.le_of_ble_eq_true rfl) ?_
  intro p e s m below meth c A ls H locs args Q hQ C0 hZ hr hlk hin hP hD hA hS hl
  have C0 : k_cx p s m args c cX7_drive 4 RX7 dC dI cy sq := C0
  have hx := C0.1
  have hb := C0.2.1
  have hl : lv_has ls 4 [(0, .ref a_this)] := hl
  obtain ⟨O, hO⟩ : ∃ o, o = F_X7_drive (lf_A g_this_machine_facts) (lf_A g_this_machine_stack) (Int32.toInt x_this_plan_cycle) (lf_A g_this_plan_code) (lf_A g_this_plan_spans) (Int32.toInt x_this_day) (lf_A g_this_cars) (lf_A g_this_gaps) := ⟨_, rfl⟩
  have hq := hO
  unfold F_X7_drive at hq
  have jn21 : ∀ (n : Nat) (J21_a2 : Nat → Int32) (J21_l2 : Int32) (J21_l3 : Int32) (J21_a6 : Nat → Int32) (J21_a7 : Nat → Int32) (J21_a8 : Nat → Int32) (H : Heap) (locs : List Loc) (ls : Array Slot), ib J21_l2 0 20 → ib J21_l3 (-1) 319 → (O = F_X7_drive_21 (Int32.toInt x_this_plan_cycle) (lf_A g_this_plan_code) (lf_A g_this_plan_spans) n (lf_A J21_a2) (Int32.toInt J21_l2) (Int32.toInt J21_l3) (lf_A J21_a6) (lf_A J21_a7) (lf_A J21_a8)) → J21_l3.toInt - (-2) ≤ (n : Int) → va_P (dC, dI) vwCl [(wo_7_rririiiirrrrriiii a_this a_this_machine a_this_plan x_this_day a_this_trusts x_this_rule x_this_green x_this_absent x_this_asksReds a_this_cars a_this_gaps a_this_known a_this_left a_this_leaves x_this_pressed x_this_crossed x_this_went x_this_harmed), (wo_3_rr a_this_machine a_this_machine_facts a_this_machine_stack), (wi_0_13_0 a_this_machine_facts cy J21_a2), (wo_4_iiiiiiirrrirrrrrir a_this_plan x_this_plan_cycle x_this_plan_green x_this_plan_rule x_this_plan_least x_this_plan_away x_this_plan_statements x_this_plan_kinds a_this_plan_calm a_this_plan_pace a_this_plan_trusts x_this_plan_walkers a_this_plan_kindOf a_this_plan_comesAt a_this_plan_comers a_this_plan_names a_this_plan_code x_this_plan_size a_this_plan_spans), (wi_0_6_0 a_this_plan_spans cy g_this_plan_spans), (wi_0_1600_0 a_this_plan_code cy g_this_plan_code), (wi_0_64_0 a_this_machine_stack cy J21_a6), (wi_0_320_0 a_this_cars cy J21_a7), (wi_0_320_0 a_this_gaps cy J21_a8)] H → va_D A [(wo_7_rririiiirrrrriiii a_this a_this_machine a_this_plan x_this_day a_this_trusts x_this_rule x_this_green x_this_absent x_this_asksReds a_this_cars a_this_gaps a_this_known a_this_left a_this_leaves x_this_pressed x_this_crossed x_this_went x_this_harmed), (wo_3_rr a_this_machine a_this_machine_facts a_this_machine_stack), (wi_0_13_0 a_this_machine_facts cy J21_a2), (wo_4_iiiiiiirrrirrrrrir a_this_plan x_this_plan_cycle x_this_plan_green x_this_plan_rule x_this_plan_least x_this_plan_away x_this_plan_statements x_this_plan_kinds a_this_plan_calm a_this_plan_pace a_this_plan_trusts x_this_plan_walkers a_this_plan_kindOf a_this_plan_comesAt a_this_plan_comers a_this_plan_names a_this_plan_code x_this_plan_size a_this_plan_spans), (wi_0_6_0 a_this_plan_spans cy g_this_plan_spans), (wi_0_1600_0 a_this_plan_code cy g_this_plan_code), (wi_0_64_0 a_this_machine_stack cy J21_a6), (wi_0_320_0 a_this_cars cy J21_a7), (wi_0_320_0 a_this_gaps cy J21_a8)] → va_S A s.heap H locs → lv_has ls 4 [(0, .ref a_this), (1, .ref a_this_machine_facts), (2, .int J21_l2), (3, .int J21_l3)] → W p l e { frames := 3, cells := 0, slots := 0, locals := 70 } s m args below meth c H locs 0 0 Q (F0 m 21 ls []) := by
    as_aux_lemma =>
      intro n
      induction n with
      | zero =>
        intro J21_a2 J21_l2 J21_l3 J21_a6 J21_a7 J21_a8 H locs ls hJ21_l2 hJ21_l3 hq hm
        exact absurd hm (by have := hJ21_l3; unfold ib at this; omega)
      | succ n ih =>
        intro J21_a2 J21_l2 J21_l3 J21_a6 J21_a7 J21_a8 H locs ls hJ21_l2 hJ21_l3 hq hm21 hP hD hS hl
        have ih21 := ih
        obtain ⟨K21, hK21⟩ : ∃ K, K = F_X7_drive_21 (Int32.toInt x_this_plan_cycle) (lf_A g_this_plan_code) (lf_A g_this_plan_spans) n := ⟨_, rfl⟩
        have hq : O = F_X7_drive_21b (Int32.toInt x_this_plan_cycle) (lf_A g_this_plan_code) (lf_A g_this_plan_spans) K21 (lf_A J21_a2) (Int32.toInt J21_l2) (Int32.toInt J21_l3) (lf_A J21_a6) (lf_A J21_a7) (lf_A J21_a8) := by rw [hK21]; exact hq
        unfold F_X7_drive_21b at hq
        have jn101 : ∀ (J101_s0 : Int32) (J101_a2 : Nat → Int32) (J101_a6 : Nat → Int32) (J101_a7 : Nat → Int32) (H : Heap) (locs : List Loc) (ls : Array Slot), ib J21_l2 0 20 → ib J21_l3 0 319 → ib J101_s0 0 20 → (O = F_X7_drive_101 (Int32.toInt J21_l3) (lf_A J21_a8) K21 (Int32.toInt J101_s0) (lf_A J101_a2) (lf_A J101_a6) (lf_A J101_a7)) → va_P (dC, dI) vwCl [(wo_7_rririiiirrrrriiii a_this a_this_machine a_this_plan x_this_day a_this_trusts x_this_rule x_this_green x_this_absent x_this_asksReds a_this_cars a_this_gaps a_this_known a_this_left a_this_leaves x_this_pressed x_this_crossed x_this_went x_this_harmed), (wo_3_rr a_this_machine a_this_machine_facts a_this_machine_stack), (wi_0_13_0 a_this_machine_facts cy J101_a2), (wo_4_iiiiiiirrrirrrrrir a_this_plan x_this_plan_cycle x_this_plan_green x_this_plan_rule x_this_plan_least x_this_plan_away x_this_plan_statements x_this_plan_kinds a_this_plan_calm a_this_plan_pace a_this_plan_trusts x_this_plan_walkers a_this_plan_kindOf a_this_plan_comesAt a_this_plan_comers a_this_plan_names a_this_plan_code x_this_plan_size a_this_plan_spans), (wi_0_6_0 a_this_plan_spans cy g_this_plan_spans), (wi_0_1600_0 a_this_plan_code cy g_this_plan_code), (wi_0_64_0 a_this_machine_stack cy J101_a6), (wi_0_320_0 a_this_cars cy J101_a7), (wi_0_320_0 a_this_gaps cy J21_a8)] H → va_D A [(wo_7_rririiiirrrrriiii a_this a_this_machine a_this_plan x_this_day a_this_trusts x_this_rule x_this_green x_this_absent x_this_asksReds a_this_cars a_this_gaps a_this_known a_this_left a_this_leaves x_this_pressed x_this_crossed x_this_went x_this_harmed), (wo_3_rr a_this_machine a_this_machine_facts a_this_machine_stack), (wi_0_13_0 a_this_machine_facts cy J101_a2), (wo_4_iiiiiiirrrirrrrrir a_this_plan x_this_plan_cycle x_this_plan_green x_this_plan_rule x_this_plan_least x_this_plan_away x_this_plan_statements x_this_plan_kinds a_this_plan_calm a_this_plan_pace a_this_plan_trusts x_this_plan_walkers a_this_plan_kindOf a_this_plan_comesAt a_this_plan_comers a_this_plan_names a_this_plan_code x_this_plan_size a_this_plan_spans), (wi_0_6_0 a_this_plan_spans cy g_this_plan_spans), (wi_0_1600_0 a_this_plan_code cy g_this_plan_code), (wi_0_64_0 a_this_machine_stack cy J101_a6), (wi_0_320_0 a_this_cars cy J101_a7), (wi_0_320_0 a_this_gaps cy J21_a8)] → va_S A s.heap H locs → lv_has ls 4 [(0, .ref a_this), (1, .ref a_this_machine_facts), (2, .int J21_l2), (3, .int J21_l3)] → W p l e { frames := 3, cells := 0, slots := 0, locals := 70 } s m args below meth c H locs 0 0 Q (F0 m 101 ls [.int J101_s0]) := by
          as_aux_lemma =>
            intro J101_s0 J101_a2 J101_a6 J101_a7 H locs ls hK101_J21_l2 hK101_J21_l3 hJ101_s0 hq hP hD hS hl
            unfold F_X7_drive_101 at hq
            refine lv_istore_n (lv' := [(2, .int J101_s0), (0, .ref a_this), (1, .ref a_this_machine_facts), (3, .int J21_l3)]) hx hb dX7_drive_101 rfl hl (Nat.le_of_ble_eq_true rfl) rfl (fun ls hl => ?_)
            refine lv_aload_n hx hb dX7_drive_102 rfl (lv_at hl 1 rfl) ?_
            refine k_get C0 fg_X7_35 hP 0 rfl rfl dX7_drive_103 ?_
            refine lv_iload_n hx hb dX7_drive_106 rfl (lv_at hl 3 rfl) ?_
            refine lv_iload_n hx hb dX7_drive_107 rfl (lv_at hl 0 rfl) ?_
            refine va_iast hx hb C0.2.2.2.2.2.1 hP hD hS 8 0 rfl rfl (ib_in 320 hK101_J21_l3 rfl) dX7_drive_108 (fun H locs hP hD hS => ?_)
            replace hP : va_P (dC, dI) vwCl [(wo_7_rririiiirrrrriiii a_this a_this_machine a_this_plan x_this_day a_this_trusts x_this_rule x_this_green x_this_absent x_this_asksReds a_this_cars a_this_gaps a_this_known a_this_left a_this_leaves x_this_pressed x_this_crossed x_this_went x_this_harmed), (wo_3_rr a_this_machine a_this_machine_facts a_this_machine_stack), (wi_0_13_0 a_this_machine_facts cy J101_a2), (wo_4_iiiiiiirrrirrrrrir a_this_plan x_this_plan_cycle x_this_plan_green x_this_plan_rule x_this_plan_least x_this_plan_away x_this_plan_statements x_this_plan_kinds a_this_plan_calm a_this_plan_pace a_this_plan_trusts x_this_plan_walkers a_this_plan_kindOf a_this_plan_comesAt a_this_plan_comers a_this_plan_names a_this_plan_code x_this_plan_size a_this_plan_spans), (wi_0_6_0 a_this_plan_spans cy g_this_plan_spans), (wi_0_1600_0 a_this_plan_code cy g_this_plan_code), (wi_0_64_0 a_this_machine_stack cy J101_a6), (wi_0_320_0 a_this_cars cy J101_a7), (wi_0_320_0 a_this_gaps cy (upd J21_a8 (Int32.toNatClampNeg J21_l3) J101_s0))] H := hP
            replace hD := k_D hP hD
            generalize ef1 : upd J21_a8 (Int32.toNatClampNeg J21_l3) J101_s0 = f1 at hP hD
            have Ef1 := lf_st ef1 (lf_ra J21_a8) (lf_rf J21_l3) (lf_rf J101_s0)
            obtain ⟨z2, ez2⟩ : ∃ y : Int32, y = J21_l3 + (-1) := ⟨_, rfl⟩
            refine lv_iinc (v := z2) (lv' := [(3, .int z2), (2, .int J101_s0), (0, .ref a_this), (1, .ref a_this_machine_facts)]) hx hb dX7_drive_109 hl (k := 3) rfl (by rw [ez2]; rfl) (Nat.le_of_ble_eq_true rfl) rfl (fun ls hl => ?_)
            have h3 := ib_add hK101_J21_l3 (ib_c (-1) (-1) (-1) rfl) rfl
            rw [← ez2] at h3
            have h4 : ib z2 (-1) 318 := ib_w (-1) 318 h3.1 rfl
            have Ez2 := lf_add h3.2 (lf_rf J21_l3) (lf_lc (-1) (-1 : Int) rfl)
            refine lv_goto (tgt := 21) hx hb dX7_drive_112 rfl ?_
            exact ih21 J101_a2 J101_s0 z2 J101_a6 J101_a7 f1 H locs ls (ib_w 0 20 hJ101_s0 rfl) (ib_w (-1) 319 h4 rfl) (by rw [← hK21]; rw [lf_u Ez2]; rw [lf_ua Ef1]; exact hq) (by have := h3.2; have : ((-1) : Int32).toInt = (-1) := rfl; omega) hP hD hS (lv_sub hl [2, 3, 1, 0] rfl)
        refine lv_iload_n hx hb dX7_drive_21 rfl (lv_at hl 3 rfl) ?_
        refine lv_if_lt (tgt := 115) hx hb dX7_drive_22 rfl (fun c5 => ?_) (fun c5 => ?_)
        · replace hq := lf_pos hq (lf_lt (lf_rf J21_l3) (lf_lc 0 (0 : Int) rfl) c5)
          have h6 := ib_lt hJ21_l3 (ib_c 0 0 0 rfl) c5
          have h7 : ib J21_l3 (-1) (-1) := ib_w (-1) (-1) h6.1 rfl
          subst hQ; exact k_vret hx hb hr hlk ((J21_a2, J21_a6, J21_a7, J21_a8)) hS ((hO.symm.trans (by exact hq))) hP hD (Nat.le_of_ble_eq_true rfl) (Nat.le_of_ble_eq_true rfl) dX7_drive_115
        · as_aux_lemma =>
            replace hq := lf_neg hq (lf_nlt (lf_rf J21_l3) (lf_lc 0 (0 : Int) rfl) c5)
            have h8 := ib_nlt hJ21_l3 (ib_c 0 0 0 rfl) c5
            have h9 : ib J21_l3 0 319 := ib_w 0 319 h8.1 rfl
            refine lv_aload_n hx hb dX7_drive_25 rfl (lv_at hl 1 rfl) ?_
            refine lv_iconst (v := 0) hx hb dX7_drive_26 rfl ?_
            refine lv_iload_n hx hb dX7_drive_27 rfl (lv_at hl 3 rfl) ?_
            refine va_iast hx hb C0.2.2.2.2.2.1 hP hD hS 2 0 rfl rfl (k_in 0 13 rfl) dX7_drive_28 (fun H locs hP hD hS => ?_)
            replace hP : va_P (dC, dI) vwCl [(wo_7_rririiiirrrrriiii a_this a_this_machine a_this_plan x_this_day a_this_trusts x_this_rule x_this_green x_this_absent x_this_asksReds a_this_cars a_this_gaps a_this_known a_this_left a_this_leaves x_this_pressed x_this_crossed x_this_went x_this_harmed), (wo_3_rr a_this_machine a_this_machine_facts a_this_machine_stack), (wi_0_13_0 a_this_machine_facts cy (upd J21_a2 (Int32.toNatClampNeg 0) J21_l3)), (wo_4_iiiiiiirrrirrrrrir a_this_plan x_this_plan_cycle x_this_plan_green x_this_plan_rule x_this_plan_least x_this_plan_away x_this_plan_statements x_this_plan_kinds a_this_plan_calm a_this_plan_pace a_this_plan_trusts x_this_plan_walkers a_this_plan_kindOf a_this_plan_comesAt a_this_plan_comers a_this_plan_names a_this_plan_code x_this_plan_size a_this_plan_spans), (wi_0_6_0 a_this_plan_spans cy g_this_plan_spans), (wi_0_1600_0 a_this_plan_code cy g_this_plan_code), (wi_0_64_0 a_this_machine_stack cy J21_a6), (wi_0_320_0 a_this_cars cy J21_a7), (wi_0_320_0 a_this_gaps cy J21_a8)] H := hP
            replace hD := k_D hP hD
            generalize ef10 : upd J21_a2 (Int32.toNatClampNeg 0) J21_l3 = f10 at hP hD
            have Ef10 := lf_st ef10 (lf_ra J21_a2) (lf_lc 0 (0 : Int) rfl) (lf_rf J21_l3)
            refine lv_aload_n hx hb dX7_drive_29 rfl (lv_at hl 1 rfl) ?_
            refine lv_iconst (v := 2) hx hb dX7_drive_30 rfl ?_
            refine lv_iload_n hx hb dX7_drive_31 rfl (lv_at hl 3 rfl) ?_
            refine lv_aload_n hx hb dX7_drive_32 rfl (lv_at hl 0 rfl) ?_
            refine k_get C0 fg_X7_63 hP 0 rfl rfl dX7_drive_33 ?_
            refine k_get C0 fg_X7_73 hP 3 rfl rfl dX7_drive_36 ?_
            refine lv_irem hx hb dX7_drive_39 (ib_nz hx_this_plan_cycle rfl) ?_
            refine lv_topi (fun z11 ez11 => ?_)
            have h12 : ib z11 0 119 := by rw [ez11]; exact ib_w 0 119 (ib_rem h9 hx_this_plan_cycle rfl) rfl
            have Ez11 := lf_op lf_irem ez11 (lf_rf J21_l3) (lf_rf x_this_plan_cycle)
            refine va_iast hx hb C0.2.2.2.2.2.1 hP hD hS 2 0 rfl rfl (k_in 2 13 rfl) dX7_drive_40 (fun H locs hP hD hS => ?_)
            replace hP : va_P (dC, dI) vwCl [(wo_7_rririiiirrrrriiii a_this a_this_machine a_this_plan x_this_day a_this_trusts x_this_rule x_this_green x_this_absent x_this_asksReds a_this_cars a_this_gaps a_this_known a_this_left a_this_leaves x_this_pressed x_this_crossed x_this_went x_this_harmed), (wo_3_rr a_this_machine a_this_machine_facts a_this_machine_stack), (wi_0_13_0 a_this_machine_facts cy (upd f10 (Int32.toNatClampNeg 2) z11)), (wo_4_iiiiiiirrrirrrrrir a_this_plan x_this_plan_cycle x_this_plan_green x_this_plan_rule x_this_plan_least x_this_plan_away x_this_plan_statements x_this_plan_kinds a_this_plan_calm a_this_plan_pace a_this_plan_trusts x_this_plan_walkers a_this_plan_kindOf a_this_plan_comesAt a_this_plan_comers a_this_plan_names a_this_plan_code x_this_plan_size a_this_plan_spans), (wi_0_6_0 a_this_plan_spans cy g_this_plan_spans), (wi_0_1600_0 a_this_plan_code cy g_this_plan_code), (wi_0_64_0 a_this_machine_stack cy J21_a6), (wi_0_320_0 a_this_cars cy J21_a7), (wi_0_320_0 a_this_gaps cy J21_a8)] H := hP
            replace hD := k_D hP hD
            generalize ef13 : upd f10 (Int32.toNatClampNeg 2) z11 = f13 at hP hD
            have Ef13 := lf_st ef13 Ef10 (lf_lc 2 (2 : Int) rfl) Ez11
            refine lv_aload_n hx hb dX7_drive_41 rfl (lv_at hl 0 rfl) ?_
            refine k_get C0 fg_X7_32 hP 0 rfl rfl dX7_drive_42 ?_
            refine lv_iload_n hx hb dX7_drive_45 rfl (lv_at hl 3 rfl) ?_
            refine lv_aload_n hx hb dX7_drive_46 rfl (lv_at hl 0 rfl) ?_
            as_aux_lemma =>
              refine k_get C0 fg_X7_59 hP 0 rfl rfl dX7_drive_47 ?_
              refine lv_aload_n hx hb dX7_drive_50 rfl (lv_at hl 0 rfl) ?_
              refine k_get C0 fg_X7_63 hP 0 rfl rfl dX7_drive_51 ?_
              refine k_get C0 fg_X7_107 hP 3 rfl rfl dX7_drive_54 ?_
              refine lv_aload_n hx hb dX7_drive_57 rfl (lv_at hl 0 rfl) ?_
              refine k_get C0 fg_X7_63 hP 0 rfl rfl dX7_drive_58 ?_
              refine k_get C0 fg_X7_110 hP 3 rfl rfl dX7_drive_61 ?_
              refine lv_iconst (v := 0) hx hb dX7_drive_64 rfl ?_
              refine va_iald hx hb C0.2.2.2.2.2.1 hP 4 0 rfl rfl (k_in 0 6 rfl) dX7_drive_65 ?_
              refine lv_topi (fun z14 ez14 => ?_)
              have h15 : ib z14 0 1600 := by rw [ez14]; exact ia_at hg_this_plan_spans (k_in 0 6 rfl)
              have Ez14 := lf_ld ez14 (lf_ra g_this_plan_spans) (lf_lc 0 (0 : Int) rfl)
              refine lv_aload_n hx hb dX7_drive_66 rfl (lv_at hl 0 rfl) ?_
              refine k_get C0 fg_X7_63 hP 0 rfl rfl dX7_drive_67 ?_
              refine k_get C0 fg_X7_110 hP 3 rfl rfl dX7_drive_70 ?_
              refine lv_iconst (v := 1) hx hb dX7_drive_73 rfl ?_
              refine va_iald hx hb C0.2.2.2.2.2.1 hP 4 0 rfl rfl (k_in 1 6 rfl) dX7_drive_74 ?_
              refine lv_topi (fun z16 ez16 => ?_)
              have h17 : ib z16 0 1600 := by rw [ez16]; exact ia_at hg_this_plan_spans (k_in 1 6 rfl)
              have Ez16 := lf_ld ez16 (lf_ra g_this_plan_spans) (lf_lc 1 (1 : Int) rfl)
              refine k_jim hP hD hS hA [1, 5, 2, 6] [true, false, false, true, true, false, false, true, true] rfl rfl (by decide +kernel) 0 0 (Nat.le_of_ble_eq_true rfl) (Nat.le_of_ble_eq_true rfl) (fun hPc hDc => k_runV (As := [.ref a_this_plan_code, .int z14, .int z16]) (rest := [.int J21_l3, .ref a_this_cars]) C0 hZ hS hA (s_X3_value l dC dI cy sq a_this_machine a_this_machine_facts f13 a_this_machine_stack J21_a6 a_this_plan_code g_this_plan_code z14 z16 (ib_w 0 1600 h15 rfl)) mV_X7_113 hPc hDc rfl rfl rfl hl rfl rfl (Nat.le_of_ble_eq_true rfl) ⟨(Nat.le_of_ble_eq_true rfl), (Nat.le_of_ble_eq_true rfl)⟩ ⟨(Nat.le_of_ble_eq_true rfl), (Nat.le_of_ble_eq_true rfl)⟩ dX7_drive_75) (fun r18 u19 H locs hw hP hD hS => ?_)
              obtain ⟨f20, ef20⟩ : ∃ z, z = u19 := ⟨_, rfl⟩; subst ef20
              try dsimp only at hP hD hw
              replace hP : va_P (dC, dI) vwCl [(wo_7_rririiiirrrrriiii a_this a_this_machine a_this_plan x_this_day a_this_trusts x_this_rule x_this_green x_this_absent x_this_asksReds a_this_cars a_this_gaps a_this_known a_this_left a_this_leaves x_this_pressed x_this_crossed x_this_went x_this_harmed), (wo_4_iiiiiiirrrirrrrrir a_this_plan x_this_plan_cycle x_this_plan_green x_this_plan_rule x_this_plan_least x_this_plan_away x_this_plan_statements x_this_plan_kinds a_this_plan_calm a_this_plan_pace a_this_plan_trusts x_this_plan_walkers a_this_plan_kindOf a_this_plan_comesAt a_this_plan_comers a_this_plan_names a_this_plan_code x_this_plan_size a_this_plan_spans), (wi_0_6_0 a_this_plan_spans cy g_this_plan_spans), (wi_0_320_0 a_this_cars cy J21_a7), (wi_0_320_0 a_this_gaps cy J21_a8), (wo_3_rr a_this_machine a_this_machine_facts a_this_machine_stack), (wi_0_1600_0 a_this_plan_code cy g_this_plan_code), (wi_0_13_0 a_this_machine_facts cy f13), (wi_0_64_0 a_this_machine_stack cy f20)] H := hP
              replace hD := k_D hP hD
              have h21 := hw
              have h21 := by have h9 := h21; rw [lf_ua Ef13] at h9; rw [lf_u Ez14] at h9; rw [lf_u Ez16] at h9; exact h9
              replace hq := lf_p1 hq h21
              refine va_iast hx hb C0.2.2.2.2.2.1 hP hD hS 3 0 rfl rfl (ib_in 320 h9 rfl) dX7_drive_78 (fun H locs hP hD hS => ?_)
              replace hP : va_P (dC, dI) vwCl [(wo_7_rririiiirrrrriiii a_this a_this_machine a_this_plan x_this_day a_this_trusts x_this_rule x_this_green x_this_absent x_this_asksReds a_this_cars a_this_gaps a_this_known a_this_left a_this_leaves x_this_pressed x_this_crossed x_this_went x_this_harmed), (wo_4_iiiiiiirrrirrrrrir a_this_plan x_this_plan_cycle x_this_plan_green x_this_plan_rule x_this_plan_least x_this_plan_away x_this_plan_statements x_this_plan_kinds a_this_plan_calm a_this_plan_pace a_this_plan_trusts x_this_plan_walkers a_this_plan_kindOf a_this_plan_comesAt a_this_plan_comers a_this_plan_names a_this_plan_code x_this_plan_size a_this_plan_spans), (wi_0_6_0 a_this_plan_spans cy g_this_plan_spans), (wi_0_320_0 a_this_cars cy (upd J21_a7 (Int32.toNatClampNeg J21_l3) r18)), (wi_0_320_0 a_this_gaps cy J21_a8), (wo_3_rr a_this_machine a_this_machine_facts a_this_machine_stack), (wi_0_1600_0 a_this_plan_code cy g_this_plan_code), (wi_0_13_0 a_this_machine_facts cy f13), (wi_0_64_0 a_this_machine_stack cy f20)] H := hP
              as_aux_lemma =>
                replace hD := k_D hP hD
                generalize ef22 : upd J21_a7 (Int32.toNatClampNeg J21_l3) r18 = f22 at hP hD
                have Ef22 := lf_st ef22 (lf_ra J21_a7) (lf_rf J21_l3) (lf_rf r18)
                refine lv_aload_n hx hb dX7_drive_79 rfl (lv_at hl 0 rfl) ?_
                refine k_get C0 fg_X7_32 hP 0 rfl rfl dX7_drive_80 ?_
                refine lv_iload_n hx hb dX7_drive_83 rfl (lv_at hl 3 rfl) ?_
                refine va_iald hx hb C0.2.2.2.2.2.1 hP 3 0 rfl rfl (ib_in 320 h9 rfl) dX7_drive_84 ?_
                refine lv_topi (fun z23 ez23 => ?_)
                have Ez23 := lf_ld ez23 Ef22 (lf_rf J21_l3)
                refine lv_iconst (v := 1) hx hb dX7_drive_85 rfl ?_
                refine lv_icmp_ne (tgt := 93) hx hb dX7_drive_86 rfl (fun c24 => ?_) (fun c24 => ?_)
                · replace hq := lf_neg hq (lf_ne Ez23 (lf_lc 1 (1 : Int) rfl) c24)
                  refine lv_iload_n hx hb dX7_drive_93 rfl (lv_at hl 2 rfl) ?_
                  refine lv_iconst (v := 1) hx hb dX7_drive_94 rfl ?_
                  refine lv_iadd hx hb dX7_drive_95 ?_
                  refine lv_topi (fun z25 ez25 => ?_)
                  have h26 := ib_add hJ21_l2 (ib_c 1 1 1 rfl) rfl
                  rw [← ez25] at h26
                  have h27 : ib z25 1 21 := ib_w 1 21 h26.1 rfl
                  have Ez25 := lf_add h26.2 (lf_rf J21_l2) (lf_lc 1 (1 : Int) rfl)
                  refine lv_bipush (v := 20) hx hb dX7_drive_96 rfl ?_
                  refine va_mmin hx hb (by rw [C0.2.2.1]; exact hl.1.symm) C0.2.2.2.1 (C0.2.2.2.2.1 _ wd850) (C0.2.2.2.2.1 _ wd298) (C0.2.2.2.2.1 _ wd299) (C0.2.2.2.2.1 _ wd300) (Nat.le_of_ble_eq_true rfl) (Nat.le_of_ble_eq_true rfl) (Nat.le_of_ble_eq_true rfl) (Nat.le_of_ble_eq_true rfl) dX7_drive_98 ?_
                  refine lv_topi (fun z28 ez28 => ?_)
                  have h29 : ib z28 1 20 := by rw [ez28]; exact ib_w 1 20 (ib_min h27 (ib_c 20 20 20 rfl)) rfl
                  have Ez28 := lf_min ez28 Ez25 (lf_lc 20 (20 : Int) rfl)
                  exact jn101 z28 f13 f20 f22 H locs ls (ib_w 0 20 hJ21_l2 rfl) (ib_w 0 319 h9 rfl) (ib_w 0 20 h29 rfl) (by rw [lf_u Ez28]; rw [lf_ua Ef13]; rw [lf_ua Ef22]; exact hq) (hP.sub [0, 5, 7, 1, 2, 6, 8, 3, 4] rfl) (hD.sub [0, 5, 7, 1, 2, 6, 8, 3, 4] rfl rfl) hS (lv_sub hl [0, 1, 2, 3] rfl)
                · replace hq := lf_pos hq (lf_eq Ez23 (lf_lc 1 (1 : Int) rfl) c24)
                  have h30 := ib_eq (ib_any z23) (ib_c 1 1 1 rfl) c24
                  have h31 : ib z23 1 1 := ib_w 1 1 h30.1 rfl
                  refine lv_iconst (v := 0) hx hb dX7_drive_89 rfl ?_
                  refine lv_goto (tgt := 101) hx hb dX7_drive_90 rfl ?_
                  exact jn101 0 f13 f20 f22 H locs ls (ib_w 0 20 hJ21_l2 rfl) (ib_w 0 319 h9 rfl) (ib_w 0 20 (ib_c 0 0 0 rfl) rfl) (by try simp only [show (0 : Int32).toInt = (0 : Int) from rfl]; rw [lf_ua Ef13]; rw [lf_ua Ef22]; exact hq) (hP.sub [0, 5, 7, 1, 2, 6, 8, 3, 4] rfl) (hD.sub [0, 5, 7, 1, 2, 6, 8, 3, 4] rfl rfl) hS (lv_sub hl [0, 1, 2, 3] rfl)
  refine lv_aload_n hx hb dX7_drive_0 rfl (lv_at hl 0 rfl) ?_
  refine k_get C0 fg_X7_59 hP 0 rfl rfl dX7_drive_1 ?_
  refine k_get C0 fg_X7_102 hP 1 rfl rfl dX7_drive_4 ?_
  refine lv_astore_n (lv' := [(1, .ref a_this_machine_facts), (0, .ref a_this)]) hx hb dX7_drive_7 rfl hl (Nat.le_of_ble_eq_true rfl) rfl (fun ls hl => ?_)
  refine lv_aload_n hx hb dX7_drive_8 rfl (lv_at hl 0 rfl) ?_
  refine lv_iconst (v := 1) hx hb dX7_drive_9 rfl ?_
  refine lv_aload_n hx hb dX7_drive_10 rfl (lv_at hl 1 rfl) ?_
  refine k_get C0 fg_X7_9 hP 0 rfl rfl dX7_drive_11 ?_
  refine va_iast hx hb C0.2.2.2.2.2.1 hP hD hS 2 0 rfl rfl (k_in 1 13 rfl) dX7_drive_14 (fun H locs hP hD hS => ?_)
  replace hP : va_P (dC, dI) vwCl [(wo_7_rririiiirrrrriiii a_this a_this_machine a_this_plan x_this_day a_this_trusts x_this_rule x_this_green x_this_absent x_this_asksReds a_this_cars a_this_gaps a_this_known a_this_left a_this_leaves x_this_pressed x_this_crossed x_this_went x_this_harmed), (wo_3_rr a_this_machine a_this_machine_facts a_this_machine_stack), (wi_0_13_0 a_this_machine_facts cy (upd g_this_machine_facts (Int32.toNatClampNeg 1) x_this_day)), (wo_4_iiiiiiirrrirrrrrir a_this_plan x_this_plan_cycle x_this_plan_green x_this_plan_rule x_this_plan_least x_this_plan_away x_this_plan_statements x_this_plan_kinds a_this_plan_calm a_this_plan_pace a_this_plan_trusts x_this_plan_walkers a_this_plan_kindOf a_this_plan_comesAt a_this_plan_comers a_this_plan_names a_this_plan_code x_this_plan_size a_this_plan_spans), (wi_0_6_0 a_this_plan_spans cy g_this_plan_spans), (wi_0_1600_0 a_this_plan_code cy g_this_plan_code), (wi_0_64_0 a_this_machine_stack cy g_this_machine_stack), (wi_0_320_0 a_this_cars cy g_this_cars), (wi_0_320_0 a_this_gaps cy g_this_gaps)] H := hP
  replace hD := k_D hP hD
  generalize ef32 : upd g_this_machine_facts (Int32.toNatClampNeg 1) x_this_day = f32 at hP hD
  have Ef32 := lf_st ef32 (lf_ra g_this_machine_facts) (lf_lc 1 (1 : Int) rfl) (lf_rf x_this_day)
  refine lv_iconst (v := 0) hx hb dX7_drive_15 rfl ?_
  refine lv_istore_n (lv' := [(2, .int 0), (1, .ref a_this_machine_facts), (0, .ref a_this)]) hx hb dX7_drive_16 rfl hl (Nat.le_of_ble_eq_true rfl) rfl (fun ls hl => ?_)
  refine lv_sipush (v := 319) hx hb dX7_drive_17 rfl ?_
  refine lv_istore_n (lv' := [(3, .int 319), (2, .int 0), (1, .ref a_this_machine_facts), (0, .ref a_this)]) hx hb dX7_drive_20 rfl hl (Nat.le_of_ble_eq_true rfl) rfl (fun ls hl => ?_)
  exact jn21 322 f32 0 319 g_this_machine_stack g_this_cars g_this_gaps H locs ls (ib_w 0 20 (ib_c 0 0 0 rfl) rfl) (ib_w (-1) 319 (ib_c 319 319 319 rfl) rfl) (by rw [lf_ua Ef32]; try simp only [show (0 : Int32).toInt = (0 : Int) from rfl]; try simp only [show (319 : Int32).toInt = (319 : Int) from rfl]; exact hq) (by have := (ib_c 319 319 319 rfl); unfold ib at this; omega) hP hD hS (lv_sub hl [3, 2, 1, 0] rfl)
set_option maxHeartbeats 4000000 in
set_option maxRecDepth 100000 in
theorem s_X7_prepare (l : Launch) (dC : Nat → ClassId) (dI : Nat → Nat → Nat) (cy : Nat → ClassId) (sq : Nat → Nat) (a_this : Nat) (a_this_machine : Nat) (a_this_machine_facts : Nat) (g_this_machine_facts : Nat → Int32) (a_this_machine_stack : Nat) (g_this_machine_stack : Nat → Int32) (a_this_plan : Nat) (x_this_plan_cycle : Int32) (x_this_plan_green : Int32) (x_this_plan_rule : Int32) (x_this_plan_least : Int32) (x_this_plan_away : Int32) (x_this_plan_statements : Int32) (x_this_plan_kinds : Int32) (a_this_plan_calm : Nat) (a_this_plan_pace : Nat) (a_this_plan_trusts : Nat) (x_this_plan_walkers : Int32) (a_this_plan_kindOf : Nat) (a_this_plan_comesAt : Nat) (a_this_plan_comers : Nat) (a_this_plan_names : Nat) (a_this_plan_code : Nat) (g_this_plan_code : Nat → Int32) (x_this_plan_size : Int32) (a_this_plan_spans : Nat) (g_this_plan_spans : Nat → Int32) (x_this_day : Int32) (a_this_trusts : Nat) (g_this_trusts : Nat → Int32) (x_this_rule : Int32) (x_this_green : Int32) (x_this_absent : Int32) (x_this_asksReds : Int32) (a_this_cars : Nat) (g_this_cars : Nat → Int32) (a_this_gaps : Nat) (g_this_gaps : Nat → Int32) (a_this_known : Nat) (g_this_known : Nat → Int32) (a_this_left : Nat) (a_this_leaves : Nat) (x_this_pressed : Int32) (x_this_crossed : Int32) (x_this_went : Int32) (x_this_harmed : Int32) (a_arg0 : Nat) (x_arg0_day : Int32) (x_arg0_rule : Int32) (x_arg0_green : Int32) (a_arg0_trusts : Nat) (g_arg0_trusts : Nat → Int32) (hx_this_plan_kinds : ib x_this_plan_kinds 0 6) (hg_this_plan_spans : ia g_this_plan_spans 6 0 1600) (hx_this_plan_cycle : ib x_this_plan_cycle 1 120) : k_Met l yX7_prepare cX7_prepare 5 none { frames := 4, cells := 0, slots := 0, locals := 93 } dC dI cy sq [.ref a_this, .ref a_arg0] [(wo_7_rririiiirrrrriiii a_this a_this_machine a_this_plan x_this_day a_this_trusts x_this_rule x_this_green x_this_absent x_this_asksReds a_this_cars a_this_gaps a_this_known a_this_left a_this_leaves x_this_pressed x_this_crossed x_this_went x_this_harmed), (wo_6_iiir a_arg0 x_arg0_day x_arg0_rule x_arg0_green a_arg0_trusts), (wo_4_iiiiiiirrrirrrrrir a_this_plan x_this_plan_cycle x_this_plan_green x_this_plan_rule x_this_plan_least x_this_plan_away x_this_plan_statements x_this_plan_kinds a_this_plan_calm a_this_plan_pace a_this_plan_trusts x_this_plan_walkers a_this_plan_kindOf a_this_plan_comesAt a_this_plan_comers a_this_plan_names a_this_plan_code x_this_plan_size a_this_plan_spans), (wo_3_rr a_this_machine a_this_machine_facts a_this_machine_stack), (wi_0_13_0 a_this_machine_facts cy g_this_machine_facts), (wi_0_6_0 a_this_plan_spans cy g_this_plan_spans), (wi_0_1600_0 a_this_plan_code cy g_this_plan_code), (wi_0_64_0 a_this_machine_stack cy g_this_machine_stack), (wi_0_320_0 a_this_cars cy g_this_cars), (wi_0_320_0 a_this_gaps cy g_this_gaps), (wi_0_6_0 a_this_trusts cy g_this_trusts), (wi_0_6_0 a_arg0_trusts cy g_arg0_trusts), (wi_0_3600_0 a_this_known cy g_this_known)] (k_Qv dC dI (fun (u : Int32 × Int32 × (Nat → Int32) × (Nat → Int32) × (Nat → Int32) × (Nat → Int32) × (Nat → Int32) × (Nat → Int32)) => match u with | (n0, n1, n2, n3, n4, n5, n6, n7) => (F_X7_prepare (lf_A g_this_machine_facts) (lf_A g_this_machine_stack) (Int32.toInt x_this_plan_cycle) (Int32.toInt x_this_plan_kinds) (lf_A g_this_plan_code) (lf_A g_this_plan_spans) (Int32.toInt x_this_day) (lf_A g_this_trusts) (Int32.toInt x_this_rule) (lf_A g_this_cars) (lf_A g_this_gaps) (lf_A g_this_known) (Int32.toInt x_arg0_day) (lf_A g_arg0_trusts) = ((Int32.toInt n0), (Int32.toInt n1), (lf_A n2), (lf_A n3), (lf_A n4), (lf_A n5), (lf_A n6), (lf_A n7)))) (fun u : Int32 × Int32 × (Nat → Int32) × (Nat → Int32) × (Nat → Int32) × (Nat → Int32) × (Nat → Int32) × (Nat → Int32) => match u with | (n0, n1, n2, n3, n4, n5, n6, n7) => [(wo_7_rririiiirrrrriiii a_this a_this_machine a_this_plan n0 a_this_trusts n1 x_this_green x_this_absent x_this_asksReds a_this_cars a_this_gaps a_this_known a_this_left a_this_leaves x_this_pressed x_this_crossed x_this_went x_this_harmed), (wo_6_iiir a_arg0 x_arg0_day x_arg0_rule x_arg0_green a_arg0_trusts), (wo_4_iiiiiiirrrirrrrrir a_this_plan x_this_plan_cycle x_this_plan_green x_this_plan_rule x_this_plan_least x_this_plan_away x_this_plan_statements x_this_plan_kinds a_this_plan_calm a_this_plan_pace a_this_plan_trusts x_this_plan_walkers a_this_plan_kindOf a_this_plan_comesAt a_this_plan_comers a_this_plan_names a_this_plan_code x_this_plan_size a_this_plan_spans), (wo_3_rr a_this_machine a_this_machine_facts a_this_machine_stack), (wi_0_13_0 a_this_machine_facts cy n2), (wi_0_6_0 a_this_plan_spans cy g_this_plan_spans), (wi_0_1600_0 a_this_plan_code cy g_this_plan_code), (wi_0_64_0 a_this_machine_stack cy n3), (wi_0_320_0 a_this_cars cy n4), (wi_0_320_0 a_this_gaps cy n5), (wi_0_6_0 a_this_trusts cy n6), (wi_0_6_0 a_arg0_trusts cy g_arg0_trusts), (wi_0_3600_0 a_this_known cy n7)])) := by
  refine k_ofW2 (by decide +kernel) (Nat.le_of_ble_eq_true rfl) ?_
  intro p e s m below meth c A ls H locs args Q hQ C0 hZ hr hlk hin hP hD hA hS hl
  have C0 : k_cx p s m args c cX7_prepare 5 RX7 dC dI cy sq := C0
  have hx := C0.1
  have hb := C0.2.1
  have hl : lv_has ls 5 [(0, .ref a_this), (1, .ref a_arg0)] := hl
  obtain ⟨O, hO⟩ : ∃ o, o = F_X7_prepare (lf_A g_this_machine_facts) (lf_A g_this_machine_stack) (Int32.toInt x_this_plan_cycle) (Int32.toInt x_this_plan_kinds) (lf_A g_this_plan_code) (lf_A g_this_plan_spans) (Int32.toInt x_this_day) (lf_A g_this_trusts) (Int32.toInt x_this_rule) (lf_A g_this_cars) (lf_A g_this_gaps) (lf_A g_this_known) (Int32.toInt x_arg0_day) (lf_A g_arg0_trusts) := ⟨_, rfl⟩
  have hq := hO
  unfold F_X7_prepare at hq
  have jn97 : ∀ (J97_l2 : Int32) (J97_l3 : Int32) (J97_c0_2 : Int32) (J97_a4 : Nat → Int32) (J97_a7 : Nat → Int32) (J97_a8 : Nat → Int32) (J97_a9 : Nat → Int32) (J97_l4 : Int32) (J97_a10 : Nat → Int32) (H : Heap) (locs : List Loc) (ls : Array Slot), ib J97_l2 0 1 → ib J97_l3 0 1 → ib J97_l4 0 6 → (O = F_X7_prepare_97 (Int32.toInt x_this_rule) (lf_A g_this_known) (Int32.toInt J97_l2) (Int32.toInt J97_l3) (Int32.toInt J97_c0_2) (lf_A J97_a4) (lf_A J97_a7) (lf_A J97_a8) (lf_A J97_a9) (Int32.toInt J97_l4) (lf_A J97_a10)) → va_P (dC, dI) vwCl [(wo_7_rririiiirrrrriiii a_this a_this_machine a_this_plan J97_c0_2 a_this_trusts x_this_rule x_this_green x_this_absent x_this_asksReds a_this_cars a_this_gaps a_this_known a_this_left a_this_leaves x_this_pressed x_this_crossed x_this_went x_this_harmed), (wo_6_iiir a_arg0 x_arg0_day x_arg0_rule x_arg0_green a_arg0_trusts), (wo_4_iiiiiiirrrirrrrrir a_this_plan x_this_plan_cycle x_this_plan_green x_this_plan_rule x_this_plan_least x_this_plan_away x_this_plan_statements x_this_plan_kinds a_this_plan_calm a_this_plan_pace a_this_plan_trusts x_this_plan_walkers a_this_plan_kindOf a_this_plan_comesAt a_this_plan_comers a_this_plan_names a_this_plan_code x_this_plan_size a_this_plan_spans), (wo_3_rr a_this_machine a_this_machine_facts a_this_machine_stack), (wi_0_13_0 a_this_machine_facts cy J97_a4), (wi_0_6_0 a_this_plan_spans cy g_this_plan_spans), (wi_0_1600_0 a_this_plan_code cy g_this_plan_code), (wi_0_64_0 a_this_machine_stack cy J97_a7), (wi_0_320_0 a_this_cars cy J97_a8), (wi_0_320_0 a_this_gaps cy J97_a9), (wi_0_6_0 a_this_trusts cy J97_a10), (wi_0_6_0 a_arg0_trusts cy g_arg0_trusts), (wi_0_3600_0 a_this_known cy g_this_known)] H → va_D A [(wo_7_rririiiirrrrriiii a_this a_this_machine a_this_plan J97_c0_2 a_this_trusts x_this_rule x_this_green x_this_absent x_this_asksReds a_this_cars a_this_gaps a_this_known a_this_left a_this_leaves x_this_pressed x_this_crossed x_this_went x_this_harmed), (wo_6_iiir a_arg0 x_arg0_day x_arg0_rule x_arg0_green a_arg0_trusts), (wo_4_iiiiiiirrrirrrrrir a_this_plan x_this_plan_cycle x_this_plan_green x_this_plan_rule x_this_plan_least x_this_plan_away x_this_plan_statements x_this_plan_kinds a_this_plan_calm a_this_plan_pace a_this_plan_trusts x_this_plan_walkers a_this_plan_kindOf a_this_plan_comesAt a_this_plan_comers a_this_plan_names a_this_plan_code x_this_plan_size a_this_plan_spans), (wo_3_rr a_this_machine a_this_machine_facts a_this_machine_stack), (wi_0_13_0 a_this_machine_facts cy J97_a4), (wi_0_6_0 a_this_plan_spans cy g_this_plan_spans), (wi_0_1600_0 a_this_plan_code cy g_this_plan_code), (wi_0_64_0 a_this_machine_stack cy J97_a7), (wi_0_320_0 a_this_cars cy J97_a8), (wi_0_320_0 a_this_gaps cy J97_a9), (wi_0_6_0 a_this_trusts cy J97_a10), (wi_0_6_0 a_arg0_trusts cy g_arg0_trusts), (wi_0_3600_0 a_this_known cy g_this_known)] → va_S A s.heap H locs → lv_has ls 5 [(0, .ref a_this), (1, .ref a_arg0), (2, .int J97_l2), (3, .int J97_l3), (4, .int J97_l4)] → W p l e { frames := 4, cells := 0, slots := 0, locals := 93 } s m args below meth c H locs 0 0 Q (F0 m 97 ls []) := by
    as_aux_lemma =>
      intro J97_l2 J97_l3 J97_c0_2 J97_a4 J97_a7 J97_a8 J97_a9 J97_l4 J97_a10 H locs ls hJ97_l2 hJ97_l3 hJ97_l4 hq hP hD hS hl
      unfold F_X7_prepare_97 at hq
      refine lv_iload_n hx hb dX7_prepare_97 rfl (lv_at hl 3 rfl) ?_
      refine lv_if_ne (tgt := 114) hx hb dX7_prepare_98 rfl (fun c1 => ?_) (fun c1 => ?_)
      · replace hq := lf_neg hq (lf_ne (lf_rf J97_l3) (lf_lc 0 (0 : Int) rfl) c1)
        have h2 : ib J97_l3 1 1 := ib_w 1 1 (ib_ne_lo 0 hJ97_l3 rfl c1) rfl
        subst hQ; exact k_vret hx hb hr hlk ((J97_c0_2, x_this_rule, J97_a4, J97_a7, J97_a8, J97_a9, J97_a10, g_this_known)) hS ((hO.symm.trans (by exact hq))) hP hD (Nat.le_of_ble_eq_true rfl) (Nat.le_of_ble_eq_true rfl) dX7_prepare_114
      · replace hq := lf_pos hq (lf_eq (lf_rf J97_l3) (lf_lc 0 (0 : Int) rfl) c1)
        have h3 := ib_eq hJ97_l3 (ib_c 0 0 0 rfl) c1
        have h4 : ib J97_l3 0 0 := ib_w 0 0 h3.1 rfl
        refine lv_aload_n hx hb dX7_prepare_101 rfl (lv_at hl 0 rfl) ?_
        refine k_get C0 fg_X7_38 hP 0 rfl rfl dX7_prepare_102 ?_
        refine lv_iconst (v := 0) hx hb dX7_prepare_105 rfl ?_
        refine k_jvm hP hD hS hA [12] [true, true, true, true, true, true, true, true, true, true, true, true] rfl rfl (by decide +kernel) 0 0 (Nat.le_of_ble_eq_true rfl) (Nat.le_of_ble_eq_true rfl) (fun hPc hDc => k_runS (As := [.ref a_this_known, .int 0]) (rest := []) C0 hZ hS hA (c_fillx l dC dI cy sq a_this_known 3600 g_this_known 0 (Nat.le_of_ble_eq_true rfl)) mS_X7_96 hPc hDc hl rfl rfl (Nat.le_of_ble_eq_true rfl) ⟨(Nat.le_of_ble_eq_true rfl), (Nat.le_of_ble_eq_true rfl)⟩ ⟨(Nat.le_of_ble_eq_true rfl), (Nat.le_of_ble_eq_true rfl)⟩ dX7_prepare_106) (fun u6 H locs hw hP hD hS => ?_)
        obtain ⟨f7, ef7⟩ : ∃ z, z = u6 := ⟨_, rfl⟩; subst ef7
        replace hP : va_P (dC, dI) vwCl [(wo_7_rririiiirrrrriiii a_this a_this_machine a_this_plan J97_c0_2 a_this_trusts x_this_rule x_this_green x_this_absent x_this_asksReds a_this_cars a_this_gaps a_this_known a_this_left a_this_leaves x_this_pressed x_this_crossed x_this_went x_this_harmed), (wo_6_iiir a_arg0 x_arg0_day x_arg0_rule x_arg0_green a_arg0_trusts), (wo_4_iiiiiiirrrirrrrrir a_this_plan x_this_plan_cycle x_this_plan_green x_this_plan_rule x_this_plan_least x_this_plan_away x_this_plan_statements x_this_plan_kinds a_this_plan_calm a_this_plan_pace a_this_plan_trusts x_this_plan_walkers a_this_plan_kindOf a_this_plan_comesAt a_this_plan_comers a_this_plan_names a_this_plan_code x_this_plan_size a_this_plan_spans), (wo_3_rr a_this_machine a_this_machine_facts a_this_machine_stack), (wi_0_13_0 a_this_machine_facts cy J97_a4), (wi_0_6_0 a_this_plan_spans cy g_this_plan_spans), (wi_0_1600_0 a_this_plan_code cy g_this_plan_code), (wi_0_64_0 a_this_machine_stack cy J97_a7), (wi_0_320_0 a_this_cars cy J97_a8), (wi_0_320_0 a_this_gaps cy J97_a9), (wi_0_6_0 a_this_trusts cy J97_a10), (wi_0_6_0 a_arg0_trusts cy g_arg0_trusts), (wi_0_3600_0 a_this_known cy f7)] H := hP
        replace hD := k_D hP hD
        have ef7 := hw
        have Ef7 := lf_fle ef7 (lf_ra g_this_known) (lf_lc 0 (0 : Int) rfl)
        refine lv_aload_n hx hb dX7_prepare_109 rfl (lv_at hl 0 rfl) ?_
        refine lv_iconst (v := (-1)) hx hb dX7_prepare_110 rfl ?_
        refine k_put C0 fp_X7_19 hP hD hS 0 rfl rfl rfl (Nat.le_of_ble_eq_true rfl) dX7_prepare_111 (fun H locs hP hD hS => ?_)
        replace hP : va_P (dC, dI) vwCl [(wo_7_rririiiirrrrriiii a_this a_this_machine a_this_plan J97_c0_2 a_this_trusts (-1) x_this_green x_this_absent x_this_asksReds a_this_cars a_this_gaps a_this_known a_this_left a_this_leaves x_this_pressed x_this_crossed x_this_went x_this_harmed), (wo_6_iiir a_arg0 x_arg0_day x_arg0_rule x_arg0_green a_arg0_trusts), (wo_4_iiiiiiirrrirrrrrir a_this_plan x_this_plan_cycle x_this_plan_green x_this_plan_rule x_this_plan_least x_this_plan_away x_this_plan_statements x_this_plan_kinds a_this_plan_calm a_this_plan_pace a_this_plan_trusts x_this_plan_walkers a_this_plan_kindOf a_this_plan_comesAt a_this_plan_comers a_this_plan_names a_this_plan_code x_this_plan_size a_this_plan_spans), (wo_3_rr a_this_machine a_this_machine_facts a_this_machine_stack), (wi_0_13_0 a_this_machine_facts cy J97_a4), (wi_0_6_0 a_this_plan_spans cy g_this_plan_spans), (wi_0_1600_0 a_this_plan_code cy g_this_plan_code), (wi_0_64_0 a_this_machine_stack cy J97_a7), (wi_0_320_0 a_this_cars cy J97_a8), (wi_0_320_0 a_this_gaps cy J97_a9), (wi_0_6_0 a_this_trusts cy J97_a10), (wi_0_6_0 a_arg0_trusts cy g_arg0_trusts), (wi_0_3600_0 a_this_known cy f7)] H := hP
        replace hD := k_D hP hD
        subst hQ; exact k_vret hx hb hr hlk ((J97_c0_2, (-1), J97_a4, J97_a7, J97_a8, J97_a9, J97_a10, f7)) hS ((hO.symm.trans (by try simp only [show ((-1) : Int32).toInt = (-1 : Int) from rfl]; rw [lf_ua Ef7]; exact hq))) hP hD (Nat.le_of_ble_eq_true rfl) (Nat.le_of_ble_eq_true rfl) dX7_prepare_114
  have jn22 : ∀ (n : Nat) (J22_l2 : Int32) (J22_l3 : Int32) (J22_l4 : Int32) (J22_a10 : Nat → Int32) (H : Heap) (locs : List Loc) (ls : Array Slot), ib J22_l2 0 1 → ib J22_l3 0 1 → ib J22_l4 0 6 → (O = F_X7_prepare_22 (lf_A g_this_machine_facts) (lf_A g_this_machine_stack) (Int32.toInt x_this_plan_cycle) (Int32.toInt x_this_plan_kinds) (lf_A g_this_plan_code) (lf_A g_this_plan_spans) (Int32.toInt x_this_day) (Int32.toInt x_this_rule) (lf_A g_this_cars) (lf_A g_this_gaps) (lf_A g_this_known) (Int32.toInt x_arg0_day) (lf_A g_arg0_trusts) n (Int32.toInt J22_l2) (Int32.toInt J22_l3) (Int32.toInt J22_l4) (lf_A J22_a10)) → 7 ≤ J22_l4.toInt + (n : Int) → va_P (dC, dI) vwCl [(wo_7_rririiiirrrrriiii a_this a_this_machine a_this_plan x_this_day a_this_trusts x_this_rule x_this_green x_this_absent x_this_asksReds a_this_cars a_this_gaps a_this_known a_this_left a_this_leaves x_this_pressed x_this_crossed x_this_went x_this_harmed), (wo_6_iiir a_arg0 x_arg0_day x_arg0_rule x_arg0_green a_arg0_trusts), (wo_4_iiiiiiirrrirrrrrir a_this_plan x_this_plan_cycle x_this_plan_green x_this_plan_rule x_this_plan_least x_this_plan_away x_this_plan_statements x_this_plan_kinds a_this_plan_calm a_this_plan_pace a_this_plan_trusts x_this_plan_walkers a_this_plan_kindOf a_this_plan_comesAt a_this_plan_comers a_this_plan_names a_this_plan_code x_this_plan_size a_this_plan_spans), (wo_3_rr a_this_machine a_this_machine_facts a_this_machine_stack), (wi_0_13_0 a_this_machine_facts cy g_this_machine_facts), (wi_0_6_0 a_this_plan_spans cy g_this_plan_spans), (wi_0_1600_0 a_this_plan_code cy g_this_plan_code), (wi_0_64_0 a_this_machine_stack cy g_this_machine_stack), (wi_0_320_0 a_this_cars cy g_this_cars), (wi_0_320_0 a_this_gaps cy g_this_gaps), (wi_0_6_0 a_this_trusts cy J22_a10), (wi_0_6_0 a_arg0_trusts cy g_arg0_trusts), (wi_0_3600_0 a_this_known cy g_this_known)] H → va_D A [(wo_7_rririiiirrrrriiii a_this a_this_machine a_this_plan x_this_day a_this_trusts x_this_rule x_this_green x_this_absent x_this_asksReds a_this_cars a_this_gaps a_this_known a_this_left a_this_leaves x_this_pressed x_this_crossed x_this_went x_this_harmed), (wo_6_iiir a_arg0 x_arg0_day x_arg0_rule x_arg0_green a_arg0_trusts), (wo_4_iiiiiiirrrirrrrrir a_this_plan x_this_plan_cycle x_this_plan_green x_this_plan_rule x_this_plan_least x_this_plan_away x_this_plan_statements x_this_plan_kinds a_this_plan_calm a_this_plan_pace a_this_plan_trusts x_this_plan_walkers a_this_plan_kindOf a_this_plan_comesAt a_this_plan_comers a_this_plan_names a_this_plan_code x_this_plan_size a_this_plan_spans), (wo_3_rr a_this_machine a_this_machine_facts a_this_machine_stack), (wi_0_13_0 a_this_machine_facts cy g_this_machine_facts), (wi_0_6_0 a_this_plan_spans cy g_this_plan_spans), (wi_0_1600_0 a_this_plan_code cy g_this_plan_code), (wi_0_64_0 a_this_machine_stack cy g_this_machine_stack), (wi_0_320_0 a_this_cars cy g_this_cars), (wi_0_320_0 a_this_gaps cy g_this_gaps), (wi_0_6_0 a_this_trusts cy J22_a10), (wi_0_6_0 a_arg0_trusts cy g_arg0_trusts), (wi_0_3600_0 a_this_known cy g_this_known)] → va_S A s.heap H locs → lv_has ls 5 [(0, .ref a_this), (1, .ref a_arg0), (2, .int J22_l2), (3, .int J22_l3), (4, .int J22_l4)] → W p l e { frames := 4, cells := 0, slots := 0, locals := 93 } s m args below meth c H locs 0 0 Q (F0 m 22 ls []) := by
    as_aux_lemma =>
      intro n
      induction n with
      | zero =>
        intro J22_l2 J22_l3 J22_l4 J22_a10 H locs ls hJ22_l2 hJ22_l3 hJ22_l4 hq hm
        exact absurd hm (by have := hJ22_l4; unfold ib at this; omega)
      | succ n ih =>
        intro J22_l2 J22_l3 J22_l4 J22_a10 H locs ls hJ22_l2 hJ22_l3 hJ22_l4 hq hm22 hP hD hS hl
        have ih22 := ih
        obtain ⟨K22, hK22⟩ : ∃ K, K = F_X7_prepare_22 (lf_A g_this_machine_facts) (lf_A g_this_machine_stack) (Int32.toInt x_this_plan_cycle) (Int32.toInt x_this_plan_kinds) (lf_A g_this_plan_code) (lf_A g_this_plan_spans) (Int32.toInt x_this_day) (Int32.toInt x_this_rule) (lf_A g_this_cars) (lf_A g_this_gaps) (lf_A g_this_known) (Int32.toInt x_arg0_day) (lf_A g_arg0_trusts) n := ⟨_, rfl⟩
        have hq : O = F_X7_prepare_22b (lf_A g_this_machine_facts) (lf_A g_this_machine_stack) (Int32.toInt x_this_plan_cycle) (Int32.toInt x_this_plan_kinds) (lf_A g_this_plan_code) (lf_A g_this_plan_spans) (Int32.toInt x_this_day) (Int32.toInt x_this_rule) (lf_A g_this_cars) (lf_A g_this_gaps) (lf_A g_this_known) (Int32.toInt x_arg0_day) (lf_A g_arg0_trusts) K22 (Int32.toInt J22_l2) (Int32.toInt J22_l3) (Int32.toInt J22_l4) (lf_A J22_a10) := by rw [hK22]; exact hq
        unfold F_X7_prepare_22b at hq
        have jn60 : ∀ (J60_s0 : Int32) (H : Heap) (locs : List Loc) (ls : Array Slot), ib J22_l2 0 1 → ib J22_l3 0 1 → ib J22_l4 0 5 → ib x_this_plan_kinds 1 6 → ib J60_s0 0 1 → (O = F_X7_prepare_60 (lf_A g_arg0_trusts) (Int32.toInt J22_l2) (Int32.toInt J22_l4) (lf_A J22_a10) K22 (Int32.toInt J60_s0)) → va_P (dC, dI) vwCl [(wo_7_rririiiirrrrriiii a_this a_this_machine a_this_plan x_this_day a_this_trusts x_this_rule x_this_green x_this_absent x_this_asksReds a_this_cars a_this_gaps a_this_known a_this_left a_this_leaves x_this_pressed x_this_crossed x_this_went x_this_harmed), (wo_6_iiir a_arg0 x_arg0_day x_arg0_rule x_arg0_green a_arg0_trusts), (wo_4_iiiiiiirrrirrrrrir a_this_plan x_this_plan_cycle x_this_plan_green x_this_plan_rule x_this_plan_least x_this_plan_away x_this_plan_statements x_this_plan_kinds a_this_plan_calm a_this_plan_pace a_this_plan_trusts x_this_plan_walkers a_this_plan_kindOf a_this_plan_comesAt a_this_plan_comers a_this_plan_names a_this_plan_code x_this_plan_size a_this_plan_spans), (wo_3_rr a_this_machine a_this_machine_facts a_this_machine_stack), (wi_0_13_0 a_this_machine_facts cy g_this_machine_facts), (wi_0_6_0 a_this_plan_spans cy g_this_plan_spans), (wi_0_1600_0 a_this_plan_code cy g_this_plan_code), (wi_0_64_0 a_this_machine_stack cy g_this_machine_stack), (wi_0_320_0 a_this_cars cy g_this_cars), (wi_0_320_0 a_this_gaps cy g_this_gaps), (wi_0_6_0 a_this_trusts cy J22_a10), (wi_0_6_0 a_arg0_trusts cy g_arg0_trusts), (wi_0_3600_0 a_this_known cy g_this_known)] H → va_D A [(wo_7_rririiiirrrrriiii a_this a_this_machine a_this_plan x_this_day a_this_trusts x_this_rule x_this_green x_this_absent x_this_asksReds a_this_cars a_this_gaps a_this_known a_this_left a_this_leaves x_this_pressed x_this_crossed x_this_went x_this_harmed), (wo_6_iiir a_arg0 x_arg0_day x_arg0_rule x_arg0_green a_arg0_trusts), (wo_4_iiiiiiirrrirrrrrir a_this_plan x_this_plan_cycle x_this_plan_green x_this_plan_rule x_this_plan_least x_this_plan_away x_this_plan_statements x_this_plan_kinds a_this_plan_calm a_this_plan_pace a_this_plan_trusts x_this_plan_walkers a_this_plan_kindOf a_this_plan_comesAt a_this_plan_comers a_this_plan_names a_this_plan_code x_this_plan_size a_this_plan_spans), (wo_3_rr a_this_machine a_this_machine_facts a_this_machine_stack), (wi_0_13_0 a_this_machine_facts cy g_this_machine_facts), (wi_0_6_0 a_this_plan_spans cy g_this_plan_spans), (wi_0_1600_0 a_this_plan_code cy g_this_plan_code), (wi_0_64_0 a_this_machine_stack cy g_this_machine_stack), (wi_0_320_0 a_this_cars cy g_this_cars), (wi_0_320_0 a_this_gaps cy g_this_gaps), (wi_0_6_0 a_this_trusts cy J22_a10), (wi_0_6_0 a_arg0_trusts cy g_arg0_trusts), (wi_0_3600_0 a_this_known cy g_this_known)] → va_S A s.heap H locs → lv_has ls 5 [(0, .ref a_this), (1, .ref a_arg0), (2, .int J22_l2), (3, .int J22_l3), (4, .int J22_l4)] → W p l e { frames := 4, cells := 0, slots := 0, locals := 93 } s m args below meth c H locs 0 0 Q (F0 m 60 ls [.int J60_s0]) := by
          as_aux_lemma =>
            intro J60_s0 H locs ls hK60_J22_l2 hK60_J22_l3 hK60_J22_l4 hK60_x_this_plan_kinds hJ60_s0 hq hP hD hS hl
            unfold F_X7_prepare_60 at hq
            refine lv_istore_n (lv' := [(3, .int J60_s0), (0, .ref a_this), (1, .ref a_arg0), (2, .int J22_l2), (4, .int J22_l4)]) hx hb dX7_prepare_60 rfl hl (Nat.le_of_ble_eq_true rfl) rfl (fun ls hl => ?_)
            refine lv_aload_n hx hb dX7_prepare_61 rfl (lv_at hl 1 rfl) ?_
            refine k_get C0 fg_X7_15 hP 0 rfl rfl dX7_prepare_62 ?_
            refine lv_iload hx hb dX7_prepare_65 (lv_at hl 4 rfl) ?_
            refine lv_aload_n hx hb dX7_prepare_67 rfl (lv_at hl 2 rfl) ?_
            refine k_get C0 fg_X7_92 hP 1 rfl rfl dX7_prepare_68 ?_
            refine lv_iload hx hb dX7_prepare_71 (lv_at hl 4 rfl) ?_
            refine va_iald hx hb C0.2.2.2.2.2.1 hP 11 0 rfl rfl (ib_in 6 hK60_J22_l4 rfl) dX7_prepare_73 ?_
            refine lv_topi (fun z8 ez8 => ?_)
            have Ez8 := lf_ld ez8 (lf_ra g_arg0_trusts) (lf_rf J22_l4)
            refine va_iast hx hb C0.2.2.2.2.2.1 hP hD hS 10 0 rfl rfl (ib_in 6 hK60_J22_l4 rfl) dX7_prepare_74 (fun H locs hP hD hS => ?_)
            replace hP : va_P (dC, dI) vwCl [(wo_7_rririiiirrrrriiii a_this a_this_machine a_this_plan x_this_day a_this_trusts x_this_rule x_this_green x_this_absent x_this_asksReds a_this_cars a_this_gaps a_this_known a_this_left a_this_leaves x_this_pressed x_this_crossed x_this_went x_this_harmed), (wo_6_iiir a_arg0 x_arg0_day x_arg0_rule x_arg0_green a_arg0_trusts), (wo_4_iiiiiiirrrirrrrrir a_this_plan x_this_plan_cycle x_this_plan_green x_this_plan_rule x_this_plan_least x_this_plan_away x_this_plan_statements x_this_plan_kinds a_this_plan_calm a_this_plan_pace a_this_plan_trusts x_this_plan_walkers a_this_plan_kindOf a_this_plan_comesAt a_this_plan_comers a_this_plan_names a_this_plan_code x_this_plan_size a_this_plan_spans), (wo_3_rr a_this_machine a_this_machine_facts a_this_machine_stack), (wi_0_13_0 a_this_machine_facts cy g_this_machine_facts), (wi_0_6_0 a_this_plan_spans cy g_this_plan_spans), (wi_0_1600_0 a_this_plan_code cy g_this_plan_code), (wi_0_64_0 a_this_machine_stack cy g_this_machine_stack), (wi_0_320_0 a_this_cars cy g_this_cars), (wi_0_320_0 a_this_gaps cy g_this_gaps), (wi_0_6_0 a_this_trusts cy (upd J22_a10 (Int32.toNatClampNeg J22_l4) z8)), (wi_0_6_0 a_arg0_trusts cy g_arg0_trusts), (wi_0_3600_0 a_this_known cy g_this_known)] H := hP
            replace hD := k_D hP hD
            generalize ef9 : upd J22_a10 (Int32.toNatClampNeg J22_l4) z8 = f9 at hP hD
            have Ef9 := lf_st ef9 (lf_ra J22_a10) (lf_rf J22_l4) Ez8
            obtain ⟨z10, ez10⟩ : ∃ y : Int32, y = J22_l4 + 1 := ⟨_, rfl⟩
            refine lv_iinc (v := z10) (lv' := [(4, .int z10), (3, .int J60_s0), (0, .ref a_this), (1, .ref a_arg0), (2, .int J22_l2)]) hx hb dX7_prepare_75 hl (k := 4) rfl (by rw [ez10]; rfl) (Nat.le_of_ble_eq_true rfl) rfl (fun ls hl => ?_)
            have h11 := ib_add hK60_J22_l4 (ib_c 1 1 1 rfl) rfl
            rw [← ez10] at h11
            have h12 : ib z10 1 6 := ib_w 1 6 h11.1 rfl
            have Ez10 := lf_add h11.2 (lf_rf J22_l4) (lf_lc 1 (1 : Int) rfl)
            refine lv_goto (tgt := 22) hx hb dX7_prepare_78 rfl ?_
            exact ih22 J22_l2 J60_s0 z10 f9 H locs ls (ib_w 0 1 hK60_J22_l2 rfl) (ib_w 0 1 hJ60_s0 rfl) (ib_w 0 6 h12 rfl) (by rw [← hK22]; rw [lf_u Ez10]; rw [lf_ua Ef9]; exact hq) (by have := h11.2; have : (1 : Int32).toInt = 1 := rfl; omega) hP hD hS (lv_sub hl [2, 3, 4, 1, 0] rfl)
        have jn59 : ∀  (H : Heap) (locs : List Loc) (ls : Array Slot), ib J22_l2 0 1 → ib J22_l3 0 1 → ib J22_l4 0 5 → ib x_this_plan_kinds 1 6 → (O = F_X7_prepare_59 (lf_A g_arg0_trusts) (Int32.toInt J22_l2) (Int32.toInt J22_l4) (lf_A J22_a10) K22 ) → va_P (dC, dI) vwCl [(wo_7_rririiiirrrrriiii a_this a_this_machine a_this_plan x_this_day a_this_trusts x_this_rule x_this_green x_this_absent x_this_asksReds a_this_cars a_this_gaps a_this_known a_this_left a_this_leaves x_this_pressed x_this_crossed x_this_went x_this_harmed), (wo_6_iiir a_arg0 x_arg0_day x_arg0_rule x_arg0_green a_arg0_trusts), (wo_4_iiiiiiirrrirrrrrir a_this_plan x_this_plan_cycle x_this_plan_green x_this_plan_rule x_this_plan_least x_this_plan_away x_this_plan_statements x_this_plan_kinds a_this_plan_calm a_this_plan_pace a_this_plan_trusts x_this_plan_walkers a_this_plan_kindOf a_this_plan_comesAt a_this_plan_comers a_this_plan_names a_this_plan_code x_this_plan_size a_this_plan_spans), (wo_3_rr a_this_machine a_this_machine_facts a_this_machine_stack), (wi_0_13_0 a_this_machine_facts cy g_this_machine_facts), (wi_0_6_0 a_this_plan_spans cy g_this_plan_spans), (wi_0_1600_0 a_this_plan_code cy g_this_plan_code), (wi_0_64_0 a_this_machine_stack cy g_this_machine_stack), (wi_0_320_0 a_this_cars cy g_this_cars), (wi_0_320_0 a_this_gaps cy g_this_gaps), (wi_0_6_0 a_this_trusts cy J22_a10), (wi_0_6_0 a_arg0_trusts cy g_arg0_trusts), (wi_0_3600_0 a_this_known cy g_this_known)] H → va_D A [(wo_7_rririiiirrrrriiii a_this a_this_machine a_this_plan x_this_day a_this_trusts x_this_rule x_this_green x_this_absent x_this_asksReds a_this_cars a_this_gaps a_this_known a_this_left a_this_leaves x_this_pressed x_this_crossed x_this_went x_this_harmed), (wo_6_iiir a_arg0 x_arg0_day x_arg0_rule x_arg0_green a_arg0_trusts), (wo_4_iiiiiiirrrirrrrrir a_this_plan x_this_plan_cycle x_this_plan_green x_this_plan_rule x_this_plan_least x_this_plan_away x_this_plan_statements x_this_plan_kinds a_this_plan_calm a_this_plan_pace a_this_plan_trusts x_this_plan_walkers a_this_plan_kindOf a_this_plan_comesAt a_this_plan_comers a_this_plan_names a_this_plan_code x_this_plan_size a_this_plan_spans), (wo_3_rr a_this_machine a_this_machine_facts a_this_machine_stack), (wi_0_13_0 a_this_machine_facts cy g_this_machine_facts), (wi_0_6_0 a_this_plan_spans cy g_this_plan_spans), (wi_0_1600_0 a_this_plan_code cy g_this_plan_code), (wi_0_64_0 a_this_machine_stack cy g_this_machine_stack), (wi_0_320_0 a_this_cars cy g_this_cars), (wi_0_320_0 a_this_gaps cy g_this_gaps), (wi_0_6_0 a_this_trusts cy J22_a10), (wi_0_6_0 a_arg0_trusts cy g_arg0_trusts), (wi_0_3600_0 a_this_known cy g_this_known)] → va_S A s.heap H locs → lv_has ls 5 [(0, .ref a_this), (1, .ref a_arg0), (2, .int J22_l2), (3, .int J22_l3), (4, .int J22_l4)] → W p l e { frames := 4, cells := 0, slots := 0, locals := 93 } s m args below meth c H locs 0 0 Q (F0 m 59 ls []) := by
          intro H locs ls hK59_J22_l2 hK59_J22_l3 hK59_J22_l4 hK59_x_this_plan_kinds hq hP hD hS hl
          unfold F_X7_prepare_59 at hq
          refine lv_iconst (v := 0) hx hb dX7_prepare_59 rfl ?_
          exact jn60 0 H locs ls (ib_w 0 1 hK59_J22_l2 rfl) (ib_w 0 1 hK59_J22_l3 rfl) (ib_w 0 5 hK59_J22_l4 rfl) (ib_w 1 6 hK59_x_this_plan_kinds rfl) (ib_w 0 1 (ib_c 0 0 0 rfl) rfl) (by try simp only [show (0 : Int32).toInt = (0 : Int) from rfl]; exact hq) hP hD hS (lv_sub hl [0, 1, 2, 3, 4] rfl)
        refine lv_iload hx hb dX7_prepare_22 (lv_at hl 4 rfl) ?_
        refine lv_aload_n hx hb dX7_prepare_24 rfl (lv_at hl 0 rfl) ?_
        refine k_get C0 fg_X7_63 hP 0 rfl rfl dX7_prepare_25 ?_
        refine k_get C0 fg_X7_89 hP 2 rfl rfl dX7_prepare_28 ?_
        refine lv_icmp_ge (tgt := 81) hx hb dX7_prepare_31 rfl (fun c13 => ?_) (fun c13 => ?_)
        · as_aux_lemma =>
            replace hq := lf_pos hq (lf_le (lf_rf x_this_plan_kinds) (lf_rf J22_l4) c13)
            have h14 := ib_le hx_this_plan_kinds hJ22_l4 c13
            refine lv_iload_n hx hb dX7_prepare_81 rfl (lv_at hl 2 rfl) ?_
            refine lv_if_ne (tgt := 97) hx hb dX7_prepare_82 rfl (fun c15 => ?_) (fun c15 => ?_)
            · replace hq := lf_neg hq (lf_ne (lf_rf J22_l2) (lf_lc 0 (0 : Int) rfl) c15)
              have h16 : ib J22_l2 1 1 := ib_w 1 1 (ib_ne_lo 0 hJ22_l2 rfl c15) rfl
              exact jn97 J22_l2 J22_l3 x_this_day g_this_machine_facts g_this_machine_stack g_this_cars g_this_gaps J22_l4 J22_a10 H locs ls (ib_w 0 1 h16 rfl) (ib_w 0 1 hJ22_l3 rfl) (ib_w 0 6 hJ22_l4 rfl) (by exact hq) hP hD hS (lv_sub hl [0, 1, 2, 3, 4] rfl)
            · as_aux_lemma =>
                replace hq := lf_pos hq (lf_eq (lf_rf J22_l2) (lf_lc 0 (0 : Int) rfl) c15)
                have h17 := ib_eq hJ22_l2 (ib_c 0 0 0 rfl) c15
                have h18 : ib J22_l2 0 0 := ib_w 0 0 h17.1 rfl
                refine lv_aload_n hx hb dX7_prepare_85 rfl (lv_at hl 0 rfl) ?_
                refine lv_aload_n hx hb dX7_prepare_86 rfl (lv_at hl 1 rfl) ?_
                refine k_get C0 fg_X7_86 hP 1 rfl rfl dX7_prepare_87 ?_
                refine k_put C0 fp_X7_9 hP hD hS 0 rfl rfl rfl (Nat.le_of_ble_eq_true rfl) dX7_prepare_90 (fun H locs hP hD hS => ?_)
                replace hP : va_P (dC, dI) vwCl [(wo_7_rririiiirrrrriiii a_this a_this_machine a_this_plan x_arg0_day a_this_trusts x_this_rule x_this_green x_this_absent x_this_asksReds a_this_cars a_this_gaps a_this_known a_this_left a_this_leaves x_this_pressed x_this_crossed x_this_went x_this_harmed), (wo_6_iiir a_arg0 x_arg0_day x_arg0_rule x_arg0_green a_arg0_trusts), (wo_4_iiiiiiirrrirrrrrir a_this_plan x_this_plan_cycle x_this_plan_green x_this_plan_rule x_this_plan_least x_this_plan_away x_this_plan_statements x_this_plan_kinds a_this_plan_calm a_this_plan_pace a_this_plan_trusts x_this_plan_walkers a_this_plan_kindOf a_this_plan_comesAt a_this_plan_comers a_this_plan_names a_this_plan_code x_this_plan_size a_this_plan_spans), (wo_3_rr a_this_machine a_this_machine_facts a_this_machine_stack), (wi_0_13_0 a_this_machine_facts cy g_this_machine_facts), (wi_0_6_0 a_this_plan_spans cy g_this_plan_spans), (wi_0_1600_0 a_this_plan_code cy g_this_plan_code), (wi_0_64_0 a_this_machine_stack cy g_this_machine_stack), (wi_0_320_0 a_this_cars cy g_this_cars), (wi_0_320_0 a_this_gaps cy g_this_gaps), (wi_0_6_0 a_this_trusts cy J22_a10), (wi_0_6_0 a_arg0_trusts cy g_arg0_trusts), (wi_0_3600_0 a_this_known cy g_this_known)] H := hP
                replace hD := k_D hP hD
                refine lv_aload_n hx hb dX7_prepare_93 rfl (lv_at hl 0 rfl) ?_
                refine k_jvm hP hD hS hA [0, 3, 4, 2, 5, 6, 7, 8, 9] [false, true, false, false, false, false, false, false, false, false, true, true, true] rfl rfl (by decide +kernel) 0 0 (Nat.le_of_ble_eq_true rfl) (Nat.le_of_ble_eq_true rfl) (fun hPc hDc => k_runV (As := []) (rest := []) C0 hZ hS hA (s_X7_drive l dC dI cy sq a_this a_this_machine a_this_machine_facts g_this_machine_facts a_this_machine_stack g_this_machine_stack a_this_plan x_this_plan_cycle x_this_plan_green x_this_plan_rule x_this_plan_least x_this_plan_away x_this_plan_statements x_this_plan_kinds a_this_plan_calm a_this_plan_pace a_this_plan_trusts x_this_plan_walkers a_this_plan_kindOf a_this_plan_comesAt a_this_plan_comers a_this_plan_names a_this_plan_code g_this_plan_code x_this_plan_size a_this_plan_spans g_this_plan_spans x_arg0_day a_this_trusts x_this_rule x_this_green x_this_absent x_this_asksReds a_this_cars g_this_cars a_this_gaps g_this_gaps a_this_known a_this_left a_this_leaves x_this_pressed x_this_crossed x_this_went x_this_harmed hg_this_plan_spans (ib_w 1 120 hx_this_plan_cycle rfl)) mV_X7_93 hPc hDc rfl rfl rfl hl rfl rfl (Nat.le_of_ble_eq_true rfl) ⟨(Nat.le_of_ble_eq_true rfl), (Nat.le_of_ble_eq_true rfl)⟩ ⟨(Nat.le_of_ble_eq_true rfl), (Nat.le_of_ble_eq_true rfl)⟩ dX7_prepare_94) (fun u20 H locs hw hP hD hS => ?_)
                obtain ⟨f21, f22, f23, f24⟩ := u20
                try dsimp only at hP hD hw
                replace hP : va_P (dC, dI) vwCl [(wo_6_iiir a_arg0 x_arg0_day x_arg0_rule x_arg0_green a_arg0_trusts), (wi_0_6_0 a_this_trusts cy J22_a10), (wi_0_6_0 a_arg0_trusts cy g_arg0_trusts), (wi_0_3600_0 a_this_known cy g_this_known), (wo_7_rririiiirrrrriiii a_this a_this_machine a_this_plan x_arg0_day a_this_trusts x_this_rule x_this_green x_this_absent x_this_asksReds a_this_cars a_this_gaps a_this_known a_this_left a_this_leaves x_this_pressed x_this_crossed x_this_went x_this_harmed), (wo_3_rr a_this_machine a_this_machine_facts a_this_machine_stack), (wi_0_13_0 a_this_machine_facts cy f21), (wo_4_iiiiiiirrrirrrrrir a_this_plan x_this_plan_cycle x_this_plan_green x_this_plan_rule x_this_plan_least x_this_plan_away x_this_plan_statements x_this_plan_kinds a_this_plan_calm a_this_plan_pace a_this_plan_trusts x_this_plan_walkers a_this_plan_kindOf a_this_plan_comesAt a_this_plan_comers a_this_plan_names a_this_plan_code x_this_plan_size a_this_plan_spans), (wi_0_6_0 a_this_plan_spans cy g_this_plan_spans), (wi_0_1600_0 a_this_plan_code cy g_this_plan_code), (wi_0_64_0 a_this_machine_stack cy f22), (wi_0_320_0 a_this_cars cy f23), (wi_0_320_0 a_this_gaps cy f24)] H := hP
                replace hD := k_D hP hD
                have h25 := hw
                replace hq := lf_p1 hq h25
                replace hq := lf_p1 hq rfl
                replace hq := lf_p1 hq rfl
                exact jn97 J22_l2 J22_l3 x_arg0_day f21 f22 f23 f24 J22_l4 J22_a10 H locs ls (ib_w 0 1 h18 rfl) (ib_w 0 1 hJ22_l3 rfl) (ib_w 0 6 hJ22_l4 rfl) (by exact hq) (hP.sub [4, 0, 7, 5, 6, 8, 9, 10, 11, 12, 1, 2, 3] rfl) (hD.sub [4, 0, 7, 5, 6, 8, 9, 10, 11, 12, 1, 2, 3] (by decide +kernel) rfl) hS (lv_sub hl [0, 1, 2, 3, 4] rfl)
        · as_aux_lemma =>
            replace hq := lf_neg hq (lf_nle (lf_rf x_this_plan_kinds) (lf_rf J22_l4) c13)
            have h26 := ib_nle hx_this_plan_kinds hJ22_l4 c13
            have h27 : ib x_this_plan_kinds 1 6 := ib_w 1 6 h26.1 rfl
            have h28 : ib J22_l4 0 5 := ib_w 0 5 h26.2 rfl
            refine lv_iload_n hx hb dX7_prepare_34 rfl (lv_at hl 3 rfl) ?_
            refine lv_if_eq (tgt := 59) hx hb dX7_prepare_35 rfl (fun c29 => ?_) (fun c29 => ?_)
            · replace hq := lf_pos hq (lf_eq (lf_rf J22_l3) (lf_lc 0 (0 : Int) rfl) c29)
              have h30 := ib_eq hJ22_l3 (ib_c 0 0 0 rfl) c29
              have h31 : ib J22_l3 0 0 := ib_w 0 0 h30.1 rfl
              exact jn59  H locs ls (ib_w 0 1 hJ22_l2 rfl) (ib_w 0 1 h31 rfl) (ib_w 0 5 h28 rfl) (ib_w 1 6 h27 rfl) (by exact hq) hP hD hS (lv_sub hl [0, 1, 2, 3, 4] rfl)
            · as_aux_lemma =>
                replace hq := lf_neg hq (lf_ne (lf_rf J22_l3) (lf_lc 0 (0 : Int) rfl) c29)
                have h32 : ib J22_l3 1 1 := ib_w 1 1 (ib_ne_lo 0 hJ22_l3 rfl c29) rfl
                refine lv_aload_n hx hb dX7_prepare_38 rfl (lv_at hl 0 rfl) ?_
                refine k_get C0 fg_X7_15 hP 0 rfl rfl dX7_prepare_39 ?_
                refine lv_iload hx hb dX7_prepare_42 (lv_at hl 4 rfl) ?_
                refine va_iald hx hb C0.2.2.2.2.2.1 hP 10 0 rfl rfl (ib_in 6 h28 rfl) dX7_prepare_44 ?_
                refine lv_topi (fun z33 ez33 => ?_)
                have Ez33 := lf_ld ez33 (lf_ra J22_a10) (lf_rf J22_l4)
                refine lv_aload_n hx hb dX7_prepare_45 rfl (lv_at hl 1 rfl) ?_
                refine k_get C0 fg_X7_92 hP 1 rfl rfl dX7_prepare_46 ?_
                refine lv_iload hx hb dX7_prepare_49 (lv_at hl 4 rfl) ?_
                refine va_iald hx hb C0.2.2.2.2.2.1 hP 11 0 rfl rfl (ib_in 6 h28 rfl) dX7_prepare_51 ?_
                refine lv_topi (fun z34 ez34 => ?_)
                have Ez34 := lf_ld ez34 (lf_ra g_arg0_trusts) (lf_rf J22_l4)
                refine lv_icmp_ne (tgt := 59) hx hb dX7_prepare_52 rfl (fun c35 => ?_) (fun c35 => ?_)
                · replace hq := lf_neg hq (lf_ne Ez33 Ez34 c35)
                  exact jn59  H locs ls (ib_w 0 1 hJ22_l2 rfl) (ib_w 0 1 h32 rfl) (ib_w 0 5 h28 rfl) (ib_w 1 6 h27 rfl) (by exact hq) hP hD hS (lv_sub hl [0, 1, 2, 3, 4] rfl)
                · replace hq := lf_pos hq (lf_eq Ez33 Ez34 c35)
                  have h36 := ib_eq (ib_any z33) (ib_any z34) c35
                  refine lv_iconst (v := 1) hx hb dX7_prepare_55 rfl ?_
                  refine lv_goto (tgt := 60) hx hb dX7_prepare_56 rfl ?_
                  exact jn60 1 H locs ls (ib_w 0 1 hJ22_l2 rfl) (ib_w 0 1 h32 rfl) (ib_w 0 5 h28 rfl) (ib_w 1 6 h27 rfl) (ib_w 0 1 (ib_c 1 1 1 rfl) rfl) (by try simp only [show (1 : Int32).toInt = (1 : Int) from rfl]; exact hq) hP hD hS (lv_sub hl [0, 1, 2, 3, 4] rfl)
  have jn16 : ∀ (J16_s0 : Int32) (H : Heap) (locs : List Loc) (ls : Array Slot), ib J16_s0 0 1 → (O = F_X7_prepare_16 (lf_A g_this_machine_facts) (lf_A g_this_machine_stack) (Int32.toInt x_this_plan_cycle) (Int32.toInt x_this_plan_kinds) (lf_A g_this_plan_code) (lf_A g_this_plan_spans) (Int32.toInt x_this_day) (lf_A g_this_trusts) (Int32.toInt x_this_rule) (lf_A g_this_cars) (lf_A g_this_gaps) (lf_A g_this_known) (Int32.toInt x_arg0_day) (lf_A g_arg0_trusts) (Int32.toInt J16_s0)) → va_P (dC, dI) vwCl [(wo_7_rririiiirrrrriiii a_this a_this_machine a_this_plan x_this_day a_this_trusts x_this_rule x_this_green x_this_absent x_this_asksReds a_this_cars a_this_gaps a_this_known a_this_left a_this_leaves x_this_pressed x_this_crossed x_this_went x_this_harmed), (wo_6_iiir a_arg0 x_arg0_day x_arg0_rule x_arg0_green a_arg0_trusts), (wo_4_iiiiiiirrrirrrrrir a_this_plan x_this_plan_cycle x_this_plan_green x_this_plan_rule x_this_plan_least x_this_plan_away x_this_plan_statements x_this_plan_kinds a_this_plan_calm a_this_plan_pace a_this_plan_trusts x_this_plan_walkers a_this_plan_kindOf a_this_plan_comesAt a_this_plan_comers a_this_plan_names a_this_plan_code x_this_plan_size a_this_plan_spans), (wo_3_rr a_this_machine a_this_machine_facts a_this_machine_stack), (wi_0_13_0 a_this_machine_facts cy g_this_machine_facts), (wi_0_6_0 a_this_plan_spans cy g_this_plan_spans), (wi_0_1600_0 a_this_plan_code cy g_this_plan_code), (wi_0_64_0 a_this_machine_stack cy g_this_machine_stack), (wi_0_320_0 a_this_cars cy g_this_cars), (wi_0_320_0 a_this_gaps cy g_this_gaps), (wi_0_6_0 a_this_trusts cy g_this_trusts), (wi_0_6_0 a_arg0_trusts cy g_arg0_trusts), (wi_0_3600_0 a_this_known cy g_this_known)] H → va_D A [(wo_7_rririiiirrrrriiii a_this a_this_machine a_this_plan x_this_day a_this_trusts x_this_rule x_this_green x_this_absent x_this_asksReds a_this_cars a_this_gaps a_this_known a_this_left a_this_leaves x_this_pressed x_this_crossed x_this_went x_this_harmed), (wo_6_iiir a_arg0 x_arg0_day x_arg0_rule x_arg0_green a_arg0_trusts), (wo_4_iiiiiiirrrirrrrrir a_this_plan x_this_plan_cycle x_this_plan_green x_this_plan_rule x_this_plan_least x_this_plan_away x_this_plan_statements x_this_plan_kinds a_this_plan_calm a_this_plan_pace a_this_plan_trusts x_this_plan_walkers a_this_plan_kindOf a_this_plan_comesAt a_this_plan_comers a_this_plan_names a_this_plan_code x_this_plan_size a_this_plan_spans), (wo_3_rr a_this_machine a_this_machine_facts a_this_machine_stack), (wi_0_13_0 a_this_machine_facts cy g_this_machine_facts), (wi_0_6_0 a_this_plan_spans cy g_this_plan_spans), (wi_0_1600_0 a_this_plan_code cy g_this_plan_code), (wi_0_64_0 a_this_machine_stack cy g_this_machine_stack), (wi_0_320_0 a_this_cars cy g_this_cars), (wi_0_320_0 a_this_gaps cy g_this_gaps), (wi_0_6_0 a_this_trusts cy g_this_trusts), (wi_0_6_0 a_arg0_trusts cy g_arg0_trusts), (wi_0_3600_0 a_this_known cy g_this_known)] → va_S A s.heap H locs → lv_has ls 5 [(0, .ref a_this), (1, .ref a_arg0)] → W p l e { frames := 4, cells := 0, slots := 0, locals := 93 } s m args below meth c H locs 0 0 Q (F0 m 16 ls [.int J16_s0]) := by
    intro J16_s0 H locs ls hJ16_s0 hq hP hD hS hl
    unfold F_X7_prepare_16 at hq
    refine lv_istore_n (lv' := [(2, .int J16_s0), (0, .ref a_this), (1, .ref a_arg0)]) hx hb dX7_prepare_16 rfl hl (Nat.le_of_ble_eq_true rfl) rfl (fun ls hl => ?_)
    refine lv_iload_n hx hb dX7_prepare_17 rfl (lv_at hl 0 rfl) ?_
    refine lv_istore_n (lv' := [(3, .int J16_s0), (2, .int J16_s0), (0, .ref a_this), (1, .ref a_arg0)]) hx hb dX7_prepare_18 rfl hl (Nat.le_of_ble_eq_true rfl) rfl (fun ls hl => ?_)
    refine lv_iconst (v := 0) hx hb dX7_prepare_19 rfl ?_
    refine lv_istore (lv' := [(4, .int 0), (3, .int J16_s0), (2, .int J16_s0), (0, .ref a_this), (1, .ref a_arg0)]) hx hb dX7_prepare_20 hl (Nat.le_of_ble_eq_true rfl) rfl (fun ls hl => ?_)
    exact jn22 8 J16_s0 J16_s0 0 g_this_trusts H locs ls (ib_w 0 1 hJ16_s0 rfl) (ib_w 0 1 hJ16_s0 rfl) (ib_w 0 6 (ib_c 0 0 0 rfl) rfl) (by try simp only [show (0 : Int32).toInt = (0 : Int) from rfl]; exact hq) (by have := (ib_c 0 0 0 rfl); unfold ib at this; omega) hP hD hS (lv_sub hl [3, 4, 2, 1, 0] rfl)
  refine lv_aload_n hx hb dX7_prepare_0 rfl (lv_at hl 0 rfl) ?_
  refine k_get C0 fg_X7_9 hP 0 rfl rfl dX7_prepare_1 ?_
  refine lv_aload_n hx hb dX7_prepare_4 rfl (lv_at hl 1 rfl) ?_
  refine k_get C0 fg_X7_86 hP 1 rfl rfl dX7_prepare_5 ?_
  refine lv_icmp_ne (tgt := 15) hx hb dX7_prepare_8 rfl (fun c37 => ?_) (fun c37 => ?_)
  · replace hq := lf_neg hq (lf_ne (lf_rf x_this_day) (lf_rf x_arg0_day) c37)
    refine lv_iconst (v := 0) hx hb dX7_prepare_15 rfl ?_
    exact jn16 0 H locs ls (ib_w 0 1 (ib_c 0 0 0 rfl) rfl) (by try simp only [show (0 : Int32).toInt = (0 : Int) from rfl]; exact hq) hP hD hS (lv_sub hl [0, 1] rfl)
  · replace hq := lf_pos hq (lf_eq (lf_rf x_this_day) (lf_rf x_arg0_day) c37)
    have h38 := ib_eq (ib_any x_this_day) (ib_any x_arg0_day) c37
    refine lv_iconst (v := 1) hx hb dX7_prepare_11 rfl ?_
    refine lv_goto (tgt := 16) hx hb dX7_prepare_12 rfl ?_
    exact jn16 1 H locs ls (ib_w 0 1 (ib_c 1 1 1 rfl) rfl) (by try simp only [show (1 : Int32).toInt = (1 : Int) from rfl]; exact hq) hP hD hS (lv_sub hl [0, 1] rfl)
set_option maxHeartbeats 4000000 in
set_option maxRecDepth 100000 in
theorem s_X7_willing (l : Launch) (dC : Nat → ClassId) (dI : Nat → Nat → Nat) (cy : Nat → ClassId) (sq : Nat → Nat) (a_this : Nat) (a_this_machine : Nat) (a_this_plan : Nat) (x_this_plan_cycle : Int32) (x_this_plan_green : Int32) (x_this_plan_rule : Int32) (x_this_plan_least : Int32) (x_this_plan_away : Int32) (x_this_plan_statements : Int32) (x_this_plan_kinds : Int32) (a_this_plan_calm : Nat) (a_this_plan_pace : Nat) (a_this_plan_trusts : Nat) (x_this_plan_walkers : Int32) (a_this_plan_kindOf : Nat) (g_this_plan_kindOf : Nat → Int32) (a_this_plan_comesAt : Nat) (a_this_plan_comers : Nat) (a_this_plan_names : Nat) (a_this_plan_code : Nat) (x_this_plan_size : Int32) (a_this_plan_spans : Nat) (x_this_day : Int32) (a_this_trusts : Nat) (g_this_trusts : Nat → Int32) (x_this_rule : Int32) (x_this_green : Int32) (x_this_absent : Int32) (x_this_asksReds : Int32) (a_this_cars : Nat) (a_this_gaps : Nat) (a_this_known : Nat) (a_this_left : Nat) (a_this_leaves : Nat) (x_this_pressed : Int32) (x_this_crossed : Int32) (x_this_went : Int32) (x_this_harmed : Int32) (hx_this_plan_walkers : ib x_this_plan_walkers 0 12) (hg_this_plan_kindOf : ia g_this_plan_kindOf 12 0 5) : k_Met l yX7_willing cX7_willing 3 (some .int) { frames := 0, cells := 0, slots := 0, locals := 0 } dC dI cy sq [.ref a_this] [(wo_7_rririiiirrrrriiii a_this a_this_machine a_this_plan x_this_day a_this_trusts x_this_rule x_this_green x_this_absent x_this_asksReds a_this_cars a_this_gaps a_this_known a_this_left a_this_leaves x_this_pressed x_this_crossed x_this_went x_this_harmed), (wo_4_iiiiiiirrrirrrrrir a_this_plan x_this_plan_cycle x_this_plan_green x_this_plan_rule x_this_plan_least x_this_plan_away x_this_plan_statements x_this_plan_kinds a_this_plan_calm a_this_plan_pace a_this_plan_trusts x_this_plan_walkers a_this_plan_kindOf a_this_plan_comesAt a_this_plan_comers a_this_plan_names a_this_plan_code x_this_plan_size a_this_plan_spans), (wi_0_12_0 a_this_plan_kindOf cy g_this_plan_kindOf), (wi_0_6_0 a_this_trusts cy g_this_trusts)] (k_Qi dC dI (fun (r : Int32) (_ : Unit) => (F_X7_willing (Int32.toInt x_this_plan_walkers) (lf_A g_this_plan_kindOf) (lf_A g_this_trusts) (Int32.toInt x_this_absent) = ((Int32.toInt r)))) (fun _ : Unit => [(wo_7_rririiiirrrrriiii a_this a_this_machine a_this_plan x_this_day a_this_trusts x_this_rule x_this_green x_this_absent x_this_asksReds a_this_cars a_this_gaps a_this_known a_this_left a_this_leaves x_this_pressed x_this_crossed x_this_went x_this_harmed), (wo_4_iiiiiiirrrirrrrrir a_this_plan x_this_plan_cycle x_this_plan_green x_this_plan_rule x_this_plan_least x_this_plan_away x_this_plan_statements x_this_plan_kinds a_this_plan_calm a_this_plan_pace a_this_plan_trusts x_this_plan_walkers a_this_plan_kindOf a_this_plan_comesAt a_this_plan_comers a_this_plan_names a_this_plan_code x_this_plan_size a_this_plan_spans), (wi_0_12_0 a_this_plan_kindOf cy g_this_plan_kindOf), (wi_0_6_0 a_this_trusts cy g_this_trusts)])) := by
  refine k_ofW2 (by decide +kernel) (Nat.le_of_ble_eq_true rfl) ?_
  intro p e s m below meth c A ls H locs args Q hQ C0 hZ hr hlk hin hP hD hA hS hl
  have C0 : k_cx p s m args c cX7_willing 3 RX7 dC dI cy sq := C0
  have hx := C0.1
  have hb := C0.2.1
  have hl : lv_has ls 3 [(0, .ref a_this)] := hl
  obtain ⟨O, hO⟩ : ∃ o, o = F_X7_willing (Int32.toInt x_this_plan_walkers) (lf_A g_this_plan_kindOf) (lf_A g_this_trusts) (Int32.toInt x_this_absent) := ⟨_, rfl⟩
  have hq := hO
  unfold F_X7_willing at hq
  have jn4 : ∀ (n : Nat) (J4_l1 : Int32) (J4_l2 : Int32) (H : Heap) (locs : List Loc) (ls : Array Slot), ib J4_l2 0 12 → (O = F_X7_willing_4 (Int32.toInt x_this_plan_walkers) (lf_A g_this_plan_kindOf) (lf_A g_this_trusts) (Int32.toInt x_this_absent) n (Int32.toInt J4_l1) (Int32.toInt J4_l2)) → 13 ≤ J4_l2.toInt + (n : Int) → va_P (dC, dI) vwCl [(wo_7_rririiiirrrrriiii a_this a_this_machine a_this_plan x_this_day a_this_trusts x_this_rule x_this_green x_this_absent x_this_asksReds a_this_cars a_this_gaps a_this_known a_this_left a_this_leaves x_this_pressed x_this_crossed x_this_went x_this_harmed), (wo_4_iiiiiiirrrirrrrrir a_this_plan x_this_plan_cycle x_this_plan_green x_this_plan_rule x_this_plan_least x_this_plan_away x_this_plan_statements x_this_plan_kinds a_this_plan_calm a_this_plan_pace a_this_plan_trusts x_this_plan_walkers a_this_plan_kindOf a_this_plan_comesAt a_this_plan_comers a_this_plan_names a_this_plan_code x_this_plan_size a_this_plan_spans), (wi_0_12_0 a_this_plan_kindOf cy g_this_plan_kindOf), (wi_0_6_0 a_this_trusts cy g_this_trusts)] H → va_D A [(wo_7_rririiiirrrrriiii a_this a_this_machine a_this_plan x_this_day a_this_trusts x_this_rule x_this_green x_this_absent x_this_asksReds a_this_cars a_this_gaps a_this_known a_this_left a_this_leaves x_this_pressed x_this_crossed x_this_went x_this_harmed), (wo_4_iiiiiiirrrirrrrrir a_this_plan x_this_plan_cycle x_this_plan_green x_this_plan_rule x_this_plan_least x_this_plan_away x_this_plan_statements x_this_plan_kinds a_this_plan_calm a_this_plan_pace a_this_plan_trusts x_this_plan_walkers a_this_plan_kindOf a_this_plan_comesAt a_this_plan_comers a_this_plan_names a_this_plan_code x_this_plan_size a_this_plan_spans), (wi_0_12_0 a_this_plan_kindOf cy g_this_plan_kindOf), (wi_0_6_0 a_this_trusts cy g_this_trusts)] → va_S A s.heap H locs → lv_has ls 3 [(0, .ref a_this), (1, .int J4_l1), (2, .int J4_l2)] → W p l e { frames := 0, cells := 0, slots := 0, locals := 0 } s m args below meth c H locs 0 0 Q (F0 m 4 ls []) := by
    as_aux_lemma =>
      intro n
      induction n with
      | zero =>
        intro J4_l1 J4_l2 H locs ls hJ4_l2 hq hm
        exact absurd hm (by have := hJ4_l2; unfold ib at this; omega)
      | succ n ih =>
        intro J4_l1 J4_l2 H locs ls hJ4_l2 hq hm4 hP hD hS hl
        have ih4 := ih
        obtain ⟨K4, hK4⟩ : ∃ K, K = F_X7_willing_4 (Int32.toInt x_this_plan_walkers) (lf_A g_this_plan_kindOf) (lf_A g_this_trusts) (Int32.toInt x_this_absent) n := ⟨_, rfl⟩
        have hq : O = F_X7_willing_4b (Int32.toInt x_this_plan_walkers) (lf_A g_this_plan_kindOf) (lf_A g_this_trusts) (Int32.toInt x_this_absent) K4 (Int32.toInt J4_l1) (Int32.toInt J4_l2) := by rw [hK4]; exact hq
        unfold F_X7_willing_4b at hq
        have jn38 : ∀ (J38_l1 : Int32) (H : Heap) (locs : List Loc) (ls : Array Slot), ib J4_l2 0 11 → ib x_this_plan_walkers 1 12 → (O = F_X7_willing_38 (Int32.toInt J4_l2) K4 (Int32.toInt J38_l1)) → va_P (dC, dI) vwCl [(wo_7_rririiiirrrrriiii a_this a_this_machine a_this_plan x_this_day a_this_trusts x_this_rule x_this_green x_this_absent x_this_asksReds a_this_cars a_this_gaps a_this_known a_this_left a_this_leaves x_this_pressed x_this_crossed x_this_went x_this_harmed), (wo_4_iiiiiiirrrirrrrrir a_this_plan x_this_plan_cycle x_this_plan_green x_this_plan_rule x_this_plan_least x_this_plan_away x_this_plan_statements x_this_plan_kinds a_this_plan_calm a_this_plan_pace a_this_plan_trusts x_this_plan_walkers a_this_plan_kindOf a_this_plan_comesAt a_this_plan_comers a_this_plan_names a_this_plan_code x_this_plan_size a_this_plan_spans), (wi_0_12_0 a_this_plan_kindOf cy g_this_plan_kindOf), (wi_0_6_0 a_this_trusts cy g_this_trusts)] H → va_D A [(wo_7_rririiiirrrrriiii a_this a_this_machine a_this_plan x_this_day a_this_trusts x_this_rule x_this_green x_this_absent x_this_asksReds a_this_cars a_this_gaps a_this_known a_this_left a_this_leaves x_this_pressed x_this_crossed x_this_went x_this_harmed), (wo_4_iiiiiiirrrirrrrrir a_this_plan x_this_plan_cycle x_this_plan_green x_this_plan_rule x_this_plan_least x_this_plan_away x_this_plan_statements x_this_plan_kinds a_this_plan_calm a_this_plan_pace a_this_plan_trusts x_this_plan_walkers a_this_plan_kindOf a_this_plan_comesAt a_this_plan_comers a_this_plan_names a_this_plan_code x_this_plan_size a_this_plan_spans), (wi_0_12_0 a_this_plan_kindOf cy g_this_plan_kindOf), (wi_0_6_0 a_this_trusts cy g_this_trusts)] → va_S A s.heap H locs → lv_has ls 3 [(0, .ref a_this), (1, .int J38_l1), (2, .int J4_l2)] → W p l e { frames := 0, cells := 0, slots := 0, locals := 0 } s m args below meth c H locs 0 0 Q (F0 m 38 ls []) := by
          intro J38_l1 H locs ls hK38_J4_l2 hK38_x_this_plan_walkers hq hP hD hS hl
          unfold F_X7_willing_38 at hq
          obtain ⟨z1, ez1⟩ : ∃ y : Int32, y = J4_l2 + 1 := ⟨_, rfl⟩
          refine lv_iinc (v := z1) (lv' := [(2, .int z1), (0, .ref a_this), (1, .int J38_l1)]) hx hb dX7_willing_38 hl (k := 2) rfl (by rw [ez1]; rfl) (Nat.le_of_ble_eq_true rfl) rfl (fun ls hl => ?_)
          have h2 := ib_add hK38_J4_l2 (ib_c 1 1 1 rfl) rfl
          rw [← ez1] at h2
          have h3 : ib z1 1 12 := ib_w 1 12 h2.1 rfl
          have Ez1 := lf_add h2.2 (lf_rf J4_l2) (lf_lc 1 (1 : Int) rfl)
          refine lv_goto (tgt := 4) hx hb dX7_willing_41 rfl ?_
          exact ih4 J38_l1 z1 H locs ls (ib_w 0 12 h3 rfl) (by rw [← hK4]; rw [lf_u Ez1]; exact hq) (by have := h2.2; have : (1 : Int32).toInt = 1 := rfl; omega) hP hD hS (lv_sub hl [1, 2, 0] rfl)
        refine lv_iload_n hx hb dX7_willing_4 rfl (lv_at hl 2 rfl) ?_
        refine lv_aload_n hx hb dX7_willing_5 rfl (lv_at hl 0 rfl) ?_
        refine k_get C0 fg_X7_63 hP 0 rfl rfl dX7_willing_6 ?_
        refine k_get C0 fg_X7_137 hP 1 rfl rfl dX7_willing_9 ?_
        refine lv_icmp_ge (tgt := 44) hx hb dX7_willing_12 rfl (fun c4 => ?_) (fun c4 => ?_)
        · replace hq := lf_pos hq (lf_le (lf_rf x_this_plan_walkers) (lf_rf J4_l2) c4)
          have h5 := ib_le hx_this_plan_walkers hJ4_l2 c4
          refine lv_iload_n hx hb dX7_willing_44 rfl (lv_at hl 1 rfl) ?_
          refine lv_aload_n hx hb dX7_willing_45 rfl (lv_at hl 0 rfl) ?_
          refine k_get C0 fg_X7_25 hP 0 rfl rfl dX7_willing_46 ?_
          refine lv_iconst (v := (-1)) hx hb dX7_willing_49 rfl ?_
          refine lv_ixor hx hb dX7_willing_50 ?_
          refine lv_topi (fun z6 ez6 => ?_)
          have Ez6 := lf_op lf_ixor ez6 (lf_rf x_this_absent) (lf_lc (-1) (-1 : Int) rfl)
          refine lv_iand hx hb dX7_willing_51 ?_
          refine lv_topi (fun z7 ez7 => ?_)
          have Ez7 := lf_op lf_iand ez7 (lf_rf J4_l1) Ez6
          subst hQ; exact k_iret hx hb hr hlk rfl () hS ((hO.symm.trans (by rw [lf_u Ez7]; exact hq))) hP hD (Nat.le_of_ble_eq_true rfl) (Nat.le_of_ble_eq_true rfl) dX7_willing_52
        · as_aux_lemma =>
            replace hq := lf_neg hq (lf_nle (lf_rf x_this_plan_walkers) (lf_rf J4_l2) c4)
            have h8 := ib_nle hx_this_plan_walkers hJ4_l2 c4
            have h9 : ib x_this_plan_walkers 1 12 := ib_w 1 12 h8.1 rfl
            have h10 : ib J4_l2 0 11 := ib_w 0 11 h8.2 rfl
            refine lv_aload_n hx hb dX7_willing_15 rfl (lv_at hl 0 rfl) ?_
            refine k_get C0 fg_X7_15 hP 0 rfl rfl dX7_willing_16 ?_
            refine lv_aload_n hx hb dX7_willing_19 rfl (lv_at hl 0 rfl) ?_
            refine k_get C0 fg_X7_63 hP 0 rfl rfl dX7_willing_20 ?_
            refine k_get C0 fg_X7_140 hP 1 rfl rfl dX7_willing_23 ?_
            refine lv_iload_n hx hb dX7_willing_26 rfl (lv_at hl 2 rfl) ?_
            refine va_iald hx hb C0.2.2.2.2.2.1 hP 2 0 rfl rfl (ib_in 12 h10 rfl) dX7_willing_27 ?_
            refine lv_topi (fun z11 ez11 => ?_)
            have h12 : ib z11 0 5 := by rw [ez11]; exact ia_at hg_this_plan_kindOf (ib_in 12 h10 rfl)
            have Ez11 := lf_ld ez11 (lf_ra g_this_plan_kindOf) (lf_rf J4_l2)
            refine va_iald hx hb C0.2.2.2.2.2.1 hP 3 0 rfl rfl (ib_in 6 h12 rfl) dX7_willing_28 ?_
            refine lv_topi (fun z13 ez13 => ?_)
            have Ez13 := lf_ld ez13 (lf_ra g_this_trusts) Ez11
            refine lv_if_le (tgt := 38) hx hb dX7_willing_29 rfl (fun c14 => ?_) (fun c14 => ?_)
            · replace hq := lf_pos hq (lf_le Ez13 (lf_lc 0 (0 : Int) rfl) c14)
              have h15 := ib_le (ib_any z13) (ib_c 0 0 0 rfl) c14
              have h16 : ib z13 (-2147483648) 0 := ib_w (-2147483648) 0 h15.1 rfl
              exact jn38 J4_l1 H locs ls (ib_w 0 11 h10 rfl) (ib_w 1 12 h9 rfl) (by exact hq) hP hD hS (lv_sub hl [0, 1, 2] rfl)
            · replace hq := lf_neg hq (lf_nle Ez13 (lf_lc 0 (0 : Int) rfl) c14)
              have h17 := ib_nle (ib_any z13) (ib_c 0 0 0 rfl) c14
              have h18 : ib z13 1 2147483647 := ib_w 1 2147483647 h17.1 rfl
              refine lv_iload_n hx hb dX7_willing_32 rfl (lv_at hl 1 rfl) ?_
              refine lv_iconst (v := 1) hx hb dX7_willing_33 rfl ?_
              refine lv_iload_n hx hb dX7_willing_34 rfl (lv_at hl 2 rfl) ?_
              refine lv_ishl hx hb dX7_willing_35 ?_
              refine lv_topi (fun z19 ez19 => ?_)
              have Ez19 := lf_op lf_ishl ez19 (lf_lc 1 (1 : Int) rfl) (lf_rf J4_l2)
              refine lv_ior hx hb dX7_willing_36 ?_
              refine lv_topi (fun z20 ez20 => ?_)
              have Ez20 := lf_op lf_ior ez20 (lf_rf J4_l1) Ez19
              refine lv_istore_n (lv' := [(1, .int z20), (0, .ref a_this), (2, .int J4_l2)]) hx hb dX7_willing_37 rfl hl (Nat.le_of_ble_eq_true rfl) rfl (fun ls hl => ?_)
              exact jn38 z20 H locs ls (ib_w 0 11 h10 rfl) (ib_w 1 12 h9 rfl) (by rw [lf_u Ez20]; exact hq) hP hD hS (lv_sub hl [1, 0, 2] rfl)
  refine lv_iconst (v := 0) hx hb dX7_willing_0 rfl ?_
  refine lv_istore_n (lv' := [(1, .int 0), (0, .ref a_this)]) hx hb dX7_willing_1 rfl hl (Nat.le_of_ble_eq_true rfl) rfl (fun ls hl => ?_)
  refine lv_iconst (v := 0) hx hb dX7_willing_2 rfl ?_
  refine lv_istore_n (lv' := [(2, .int 0), (1, .int 0), (0, .ref a_this)]) hx hb dX7_willing_3 rfl hl (Nat.le_of_ble_eq_true rfl) rfl (fun ls hl => ?_)
  exact jn4 14 0 0 H locs ls (ib_w 0 12 (ib_c 0 0 0 rfl) rfl) (by try simp only [show (0 : Int32).toInt = (0 : Int) from rfl]; exact hq) (by have := (ib_c 0 0 0 rfl); unfold ib at this; omega) hP hD hS (lv_sub hl [2, 1, 0] rfl)
set_option maxHeartbeats 4000000 in
set_option maxRecDepth 100000 in
theorem s_X4_comersIn (l : Launch) (dC : Nat → ClassId) (dI : Nat → Nat → Nat) (cy : Nat → ClassId) (sq : Nat → Nat) (a_this : Nat) (x_this_cycle : Int32) (x_this_green : Int32) (x_this_rule : Int32) (x_this_least : Int32) (x_this_away : Int32) (x_this_statements : Int32) (x_this_kinds : Int32) (a_this_calm : Nat) (a_this_pace : Nat) (a_this_trusts : Nat) (x_this_walkers : Int32) (a_this_kindOf : Nat) (a_this_comesAt : Nat) (a_this_comers : Nat) (g_this_comers : Nat → Int32) (a_this_names : Nat) (a_this_code : Nat) (x_this_size : Int32) (a_this_spans : Nat) (p0 : Int32)  : k_Met l yX4_comersIn cX4_comersIn 2 (some .int) { frames := 0, cells := 0, slots := 0, locals := 0 } dC dI cy sq [.ref a_this, .int p0] [(wo_4_iiiiiiirrrirrrrrir a_this x_this_cycle x_this_green x_this_rule x_this_least x_this_away x_this_statements x_this_kinds a_this_calm a_this_pace a_this_trusts x_this_walkers a_this_kindOf a_this_comesAt a_this_comers a_this_names a_this_code x_this_size a_this_spans), (wi_0_200_0 a_this_comers cy g_this_comers)] (k_Qi dC dI (fun (r : Int32) (_ : Unit) => (F_X4_comersIn (lf_A g_this_comers) (Int32.toInt p0) = ((Int32.toInt r)))) (fun _ : Unit => [(wo_4_iiiiiiirrrirrrrrir a_this x_this_cycle x_this_green x_this_rule x_this_least x_this_away x_this_statements x_this_kinds a_this_calm a_this_pace a_this_trusts x_this_walkers a_this_kindOf a_this_comesAt a_this_comers a_this_names a_this_code x_this_size a_this_spans), (wi_0_200_0 a_this_comers cy g_this_comers)])) := by
  refine k_ofW2 (by decide +kernel) (Nat.le_of_ble_eq_true rfl) ?_
  intro p e s m below meth c A ls H locs args Q hQ C0 hZ hr hlk hin hP hD hA hS hl
  have C0 : k_cx p s m args c cX4_comersIn 2 RX4 dC dI cy sq := C0
  have hx := C0.1
  have hb := C0.2.1
  have hl : lv_has ls 2 [(0, .ref a_this), (1, .int p0)] := hl
  obtain ⟨O, hO⟩ : ∃ o, o = F_X4_comersIn (lf_A g_this_comers) (Int32.toInt p0) := ⟨_, rfl⟩
  have hq := hO
  unfold F_X4_comersIn at hq
  have jn20 : ∀  (H : Heap) (locs : List Loc) (ls : Array Slot), (O = F_X4_comersIn_20 ) → va_P (dC, dI) vwCl [(wo_4_iiiiiiirrrirrrrrir a_this x_this_cycle x_this_green x_this_rule x_this_least x_this_away x_this_statements x_this_kinds a_this_calm a_this_pace a_this_trusts x_this_walkers a_this_kindOf a_this_comesAt a_this_comers a_this_names a_this_code x_this_size a_this_spans), (wi_0_200_0 a_this_comers cy g_this_comers)] H → va_D A [(wo_4_iiiiiiirrrirrrrrir a_this x_this_cycle x_this_green x_this_rule x_this_least x_this_away x_this_statements x_this_kinds a_this_calm a_this_pace a_this_trusts x_this_walkers a_this_kindOf a_this_comesAt a_this_comers a_this_names a_this_code x_this_size a_this_spans), (wi_0_200_0 a_this_comers cy g_this_comers)] → va_S A s.heap H locs → lv_has ls 2 [(0, .ref a_this), (1, .int p0)] → W p l e { frames := 0, cells := 0, slots := 0, locals := 0 } s m args below meth c H locs 0 0 Q (F0 m 20 ls []) := by
    intro H locs ls hq hP hD hS hl
    unfold F_X4_comersIn_20 at hq
    refine lv_iconst (v := 0) hx hb dX4_comersIn_20 rfl ?_
    subst hQ; exact k_iret hx hb hr hlk rfl () hS ((hO.symm.trans (by try simp only [show (0 : Int32).toInt = (0 : Int) from rfl]; exact hq))) hP hD (Nat.le_of_ble_eq_true rfl) (Nat.le_of_ble_eq_true rfl) dX4_comersIn_21
  refine lv_iload_n hx hb dX4_comersIn_0 rfl (lv_at hl 1 rfl) ?_
  refine lv_if_lt (tgt := 20) hx hb dX4_comersIn_1 rfl (fun c1 => ?_) (fun c1 => ?_)
  · replace hq := lf_pos hq (lf_lt (lf_rf p0) (lf_lc 0 (0 : Int) rfl) c1)
    have h2 := ib_lt (ib_any p0) (ib_c 0 0 0 rfl) c1
    have h3 : ib p0 (-2147483648) (-1) := ib_w (-2147483648) (-1) h2.1 rfl
    exact jn20  H locs ls (by exact hq) hP hD hS (lv_sub hl [0, 1] rfl)
  · replace hq := lf_neg hq (lf_nlt (lf_rf p0) (lf_lc 0 (0 : Int) rfl) c1)
    have h4 := ib_nlt (ib_any p0) (ib_c 0 0 0 rfl) c1
    have h5 : ib p0 0 2147483647 := ib_w 0 2147483647 h4.1 rfl
    refine lv_iload_n hx hb dX4_comersIn_4 rfl (lv_at hl 1 rfl) ?_
    refine lv_sipush (v := 200) hx hb dX4_comersIn_5 rfl ?_
    refine lv_icmp_ge (tgt := 20) hx hb dX4_comersIn_8 rfl (fun c6 => ?_) (fun c6 => ?_)
    · replace hq := lf_pos hq (lf_le (lf_lc 200 (200 : Int) rfl) (lf_rf p0) c6)
      have h7 := ib_le (ib_c 200 200 200 rfl) h5 c6
      have h8 : ib p0 200 2147483647 := ib_w 200 2147483647 h7.2 rfl
      exact jn20  H locs ls (by exact hq) hP hD hS (lv_sub hl [0, 1] rfl)
    · replace hq := lf_neg hq (lf_nle (lf_lc 200 (200 : Int) rfl) (lf_rf p0) c6)
      have h9 := ib_nle (ib_c 200 200 200 rfl) h5 c6
      have h10 : ib p0 0 199 := ib_w 0 199 h9.2 rfl
      refine lv_aload_n hx hb dX4_comersIn_11 rfl (lv_at hl 0 rfl) ?_
      refine k_get C0 fg_X4_27 hP 0 rfl rfl dX4_comersIn_12 ?_
      refine lv_iload_n hx hb dX4_comersIn_15 rfl (lv_at hl 1 rfl) ?_
      refine va_iald hx hb C0.2.2.2.2.2.1 hP 1 0 rfl rfl (ib_in 200 h10 rfl) dX4_comersIn_16 ?_
      refine lv_topi (fun z11 ez11 => ?_)
      have Ez11 := lf_ld ez11 (lf_ra g_this_comers) (lf_rf p0)
      refine lv_goto (tgt := 21) hx hb dX4_comersIn_17 rfl ?_
      subst hQ; exact k_iret hx hb hr hlk rfl () hS ((hO.symm.trans (by rw [lf_u Ez11]; exact hq))) hP hD (Nat.le_of_ble_eq_true rfl) (Nat.le_of_ble_eq_true rfl) dX4_comersIn_21
set_option maxHeartbeats 4000000 in
set_option maxRecDepth 100000 in
theorem s_X7_shine (l : Launch) (dC : Nat → ClassId) (dI : Nat → Nat → Nat) (cy : Nat → ClassId) (sq : Nat → Nat) (a_this : Nat) (a_this_machine : Nat) (a_this_plan : Nat) (x_this_plan_cycle : Int32) (x_this_plan_green : Int32) (x_this_plan_rule : Int32) (x_this_plan_least : Int32) (x_this_plan_away : Int32) (x_this_plan_statements : Int32) (x_this_plan_kinds : Int32) (a_this_plan_calm : Nat) (a_this_plan_pace : Nat) (a_this_plan_trusts : Nat) (x_this_plan_walkers : Int32) (a_this_plan_kindOf : Nat) (g_this_plan_kindOf : Nat → Int32) (a_this_plan_comesAt : Nat) (a_this_plan_comers : Nat) (g_this_plan_comers : Nat → Int32) (a_this_plan_names : Nat) (a_this_plan_code : Nat) (x_this_plan_size : Int32) (a_this_plan_spans : Nat) (x_this_day : Int32) (a_this_trusts : Nat) (g_this_trusts : Nat → Int32) (x_this_rule : Int32) (x_this_green : Int32) (x_this_absent : Int32) (x_this_asksReds : Int32) (a_this_cars : Nat) (a_this_gaps : Nat) (a_this_known : Nat) (a_this_left : Nat) (g_this_left : Nat → Int32) (a_this_leaves : Nat) (x_this_pressed : Int32) (x_this_crossed : Int32) (x_this_went : Int32) (x_this_harmed : Int32) (hx_this_plan_least : ib x_this_plan_least 0 99) (hx_this_plan_walkers : ib x_this_plan_walkers 0 12) (hg_this_plan_kindOf : ia g_this_plan_kindOf 12 0 5) (hx_this_plan_cycle : ib x_this_plan_cycle 1 120) : k_Met l yX7_shine cX7_shine 9 none { frames := 1, cells := 0, slots := 0, locals := 22 } dC dI cy sq [.ref a_this] [(wo_7_rririiiirrrrriiii a_this a_this_machine a_this_plan x_this_day a_this_trusts x_this_rule x_this_green x_this_absent x_this_asksReds a_this_cars a_this_gaps a_this_known a_this_left a_this_leaves x_this_pressed x_this_crossed x_this_went x_this_harmed), (wo_4_iiiiiiirrrirrrrrir a_this_plan x_this_plan_cycle x_this_plan_green x_this_plan_rule x_this_plan_least x_this_plan_away x_this_plan_statements x_this_plan_kinds a_this_plan_calm a_this_plan_pace a_this_plan_trusts x_this_plan_walkers a_this_plan_kindOf a_this_plan_comesAt a_this_plan_comers a_this_plan_names a_this_plan_code x_this_plan_size a_this_plan_spans), (wi_0_12_0 a_this_plan_kindOf cy g_this_plan_kindOf), (wi_0_6_0 a_this_trusts cy g_this_trusts), (wi_0_200_0 a_this_plan_comers cy g_this_plan_comers), (wi_0_300_0 a_this_left cy g_this_left)] (k_Qv dC dI (fun (u : Int32 × (Nat → Int32)) => match u with | (n0, n1) => (F_X7_shine (Int32.toInt x_this_plan_cycle) (Int32.toInt x_this_plan_least) (Int32.toInt x_this_plan_walkers) (lf_A g_this_plan_kindOf) (lf_A g_this_plan_comers) (lf_A g_this_trusts) (Int32.toInt x_this_rule) (Int32.toInt x_this_green) (Int32.toInt x_this_absent) (lf_A g_this_left) = ((Int32.toInt n0), (lf_A n1)))) (fun u : Int32 × (Nat → Int32) => match u with | (n0, n1) => [(wo_7_rririiiirrrrriiii a_this a_this_machine a_this_plan x_this_day a_this_trusts x_this_rule x_this_green x_this_absent x_this_asksReds a_this_cars a_this_gaps a_this_known a_this_left a_this_leaves n0 x_this_crossed x_this_went x_this_harmed), (wo_4_iiiiiiirrrirrrrrir a_this_plan x_this_plan_cycle x_this_plan_green x_this_plan_rule x_this_plan_least x_this_plan_away x_this_plan_statements x_this_plan_kinds a_this_plan_calm a_this_plan_pace a_this_plan_trusts x_this_plan_walkers a_this_plan_kindOf a_this_plan_comesAt a_this_plan_comers a_this_plan_names a_this_plan_code x_this_plan_size a_this_plan_spans), (wi_0_12_0 a_this_plan_kindOf cy g_this_plan_kindOf), (wi_0_6_0 a_this_trusts cy g_this_trusts), (wi_0_200_0 a_this_plan_comers cy g_this_plan_comers), (wi_0_300_0 a_this_left cy n1)])) := by
  refine k_ofW2 (by decide +kernel) (Nat.le_of_ble_eq_true rfl) ?_
  intro p e s m below meth c A ls H locs args Q hQ C0 hZ hr hlk hin hP hD hA hS hl
  have C0 : k_cx p s m args c cX7_shine 9 RX7 dC dI cy sq := C0
  have hx := C0.1
  have hb := C0.2.1
  have hl : lv_has ls 9 [(0, .ref a_this)] := hl
  obtain ⟨O, hO⟩ : ∃ o, o = F_X7_shine (Int32.toInt x_this_plan_cycle) (Int32.toInt x_this_plan_least) (Int32.toInt x_this_plan_walkers) (lf_A g_this_plan_kindOf) (lf_A g_this_plan_comers) (lf_A g_this_trusts) (Int32.toInt x_this_rule) (Int32.toInt x_this_green) (Int32.toInt x_this_absent) (lf_A g_this_left) := ⟨_, rfl⟩
  have hq := hO
  unfold F_X7_shine at hq
  have jn20 : ∀ (n : Nat) (J20_l1 : Int32) (J20_l2 : Int32) (J20_l3 : Int32) (J20_l4 : Int32) (J20_l5 : Int32) (J20_c0_13 : Int32) (J20_a5 : Nat → Int32) (H : Heap) (locs : List Loc) (ls : Array Slot), ib J20_l2 0 1 → ib J20_l3 0 1 → ib J20_l4 (-1) 300 → ib J20_l5 0 300 → (O = F_X7_shine_20 (Int32.toInt x_this_plan_cycle) (Int32.toInt x_this_plan_least) (lf_A g_this_plan_comers) (Int32.toInt x_this_rule) (Int32.toInt x_this_green) n (Int32.toInt J20_l1) (Int32.toInt J20_l2) (Int32.toInt J20_l3) (Int32.toInt J20_l4) (Int32.toInt J20_l5) (Int32.toInt J20_c0_13) (lf_A J20_a5)) → 301 ≤ J20_l5.toInt + (n : Int) → va_P (dC, dI) vwCl [(wo_7_rririiiirrrrriiii a_this a_this_machine a_this_plan x_this_day a_this_trusts x_this_rule x_this_green x_this_absent x_this_asksReds a_this_cars a_this_gaps a_this_known a_this_left a_this_leaves J20_c0_13 x_this_crossed x_this_went x_this_harmed), (wo_4_iiiiiiirrrirrrrrir a_this_plan x_this_plan_cycle x_this_plan_green x_this_plan_rule x_this_plan_least x_this_plan_away x_this_plan_statements x_this_plan_kinds a_this_plan_calm a_this_plan_pace a_this_plan_trusts x_this_plan_walkers a_this_plan_kindOf a_this_plan_comesAt a_this_plan_comers a_this_plan_names a_this_plan_code x_this_plan_size a_this_plan_spans), (wi_0_12_0 a_this_plan_kindOf cy g_this_plan_kindOf), (wi_0_6_0 a_this_trusts cy g_this_trusts), (wi_0_200_0 a_this_plan_comers cy g_this_plan_comers), (wi_0_300_0 a_this_left cy J20_a5)] H → va_D A [(wo_7_rririiiirrrrriiii a_this a_this_machine a_this_plan x_this_day a_this_trusts x_this_rule x_this_green x_this_absent x_this_asksReds a_this_cars a_this_gaps a_this_known a_this_left a_this_leaves J20_c0_13 x_this_crossed x_this_went x_this_harmed), (wo_4_iiiiiiirrrirrrrrir a_this_plan x_this_plan_cycle x_this_plan_green x_this_plan_rule x_this_plan_least x_this_plan_away x_this_plan_statements x_this_plan_kinds a_this_plan_calm a_this_plan_pace a_this_plan_trusts x_this_plan_walkers a_this_plan_kindOf a_this_plan_comesAt a_this_plan_comers a_this_plan_names a_this_plan_code x_this_plan_size a_this_plan_spans), (wi_0_12_0 a_this_plan_kindOf cy g_this_plan_kindOf), (wi_0_6_0 a_this_trusts cy g_this_trusts), (wi_0_200_0 a_this_plan_comers cy g_this_plan_comers), (wi_0_300_0 a_this_left cy J20_a5)] → va_S A s.heap H locs → lv_has ls 9 [(0, .ref a_this), (1, .int J20_l1), (2, .int J20_l2), (3, .int J20_l3), (4, .int J20_l4), (5, .int J20_l5)] → W p l e { frames := 1, cells := 0, slots := 0, locals := 22 } s m args below meth c H locs 0 0 Q (F0 m 20 ls []) := by
    as_aux_lemma =>
      intro n
      induction n with
      | zero =>
        intro J20_l1 J20_l2 J20_l3 J20_l4 J20_l5 J20_c0_13 J20_a5 H locs ls hJ20_l2 hJ20_l3 hJ20_l4 hJ20_l5 hq hm
        exact absurd hm (by have := hJ20_l5; unfold ib at this; omega)
      | succ n ih =>
        intro J20_l1 J20_l2 J20_l3 J20_l4 J20_l5 J20_c0_13 J20_a5 H locs ls hJ20_l2 hJ20_l3 hJ20_l4 hJ20_l5 hq hm20 hP hD hS hl
        have ih20 := ih
        obtain ⟨K20, hK20⟩ : ∃ K, K = F_X7_shine_20 (Int32.toInt x_this_plan_cycle) (Int32.toInt x_this_plan_least) (lf_A g_this_plan_comers) (Int32.toInt x_this_rule) (Int32.toInt x_this_green) n := ⟨_, rfl⟩
        have hq : O = F_X7_shine_20b (Int32.toInt x_this_plan_cycle) (Int32.toInt x_this_plan_least) (lf_A g_this_plan_comers) (Int32.toInt x_this_rule) (Int32.toInt x_this_green) K20 (Int32.toInt J20_l1) (Int32.toInt J20_l2) (Int32.toInt J20_l3) (Int32.toInt J20_l4) (Int32.toInt J20_l5) (Int32.toInt J20_c0_13) (lf_A J20_a5) := by rw [hK20]; exact hq
        unfold F_X7_shine_20b at hq
        have jn261 : ∀ (J261_l2 : Int32) (J261_l3 : Int32) (J261_l4 : Int32) (J261_l6 : Int32) (J261_l7 : Int32) (J261_l8 : Int32) (J261_c0_13 : Int32) (J261_a5 : Nat → Int32) (H : Heap) (locs : List Loc) (ls : Array Slot), ib J261_l2 0 1 → ib J261_l3 0 1 → ib J261_l4 (-1) 300 → ib J20_l5 0 299 → ib J261_l8 0 300 → (O = F_X7_shine_261 (Int32.toInt J20_l1) (Int32.toInt J20_l5) K20 (Int32.toInt J261_l2) (Int32.toInt J261_l3) (Int32.toInt J261_l4) (Int32.toInt J261_l6) (Int32.toInt J261_l7) (Int32.toInt J261_l8) (Int32.toInt J261_c0_13) (lf_A J261_a5)) → va_P (dC, dI) vwCl [(wo_7_rririiiirrrrriiii a_this a_this_machine a_this_plan x_this_day a_this_trusts x_this_rule x_this_green x_this_absent x_this_asksReds a_this_cars a_this_gaps a_this_known a_this_left a_this_leaves J261_c0_13 x_this_crossed x_this_went x_this_harmed), (wo_4_iiiiiiirrrirrrrrir a_this_plan x_this_plan_cycle x_this_plan_green x_this_plan_rule x_this_plan_least x_this_plan_away x_this_plan_statements x_this_plan_kinds a_this_plan_calm a_this_plan_pace a_this_plan_trusts x_this_plan_walkers a_this_plan_kindOf a_this_plan_comesAt a_this_plan_comers a_this_plan_names a_this_plan_code x_this_plan_size a_this_plan_spans), (wi_0_12_0 a_this_plan_kindOf cy g_this_plan_kindOf), (wi_0_6_0 a_this_trusts cy g_this_trusts), (wi_0_200_0 a_this_plan_comers cy g_this_plan_comers), (wi_0_300_0 a_this_left cy J261_a5)] H → va_D A [(wo_7_rririiiirrrrriiii a_this a_this_machine a_this_plan x_this_day a_this_trusts x_this_rule x_this_green x_this_absent x_this_asksReds a_this_cars a_this_gaps a_this_known a_this_left a_this_leaves J261_c0_13 x_this_crossed x_this_went x_this_harmed), (wo_4_iiiiiiirrrirrrrrir a_this_plan x_this_plan_cycle x_this_plan_green x_this_plan_rule x_this_plan_least x_this_plan_away x_this_plan_statements x_this_plan_kinds a_this_plan_calm a_this_plan_pace a_this_plan_trusts x_this_plan_walkers a_this_plan_kindOf a_this_plan_comesAt a_this_plan_comers a_this_plan_names a_this_plan_code x_this_plan_size a_this_plan_spans), (wi_0_12_0 a_this_plan_kindOf cy g_this_plan_kindOf), (wi_0_6_0 a_this_trusts cy g_this_trusts), (wi_0_200_0 a_this_plan_comers cy g_this_plan_comers), (wi_0_300_0 a_this_left cy J261_a5)] → va_S A s.heap H locs → lv_has ls 9 [(0, .ref a_this), (1, .int J20_l1), (2, .int J261_l2), (3, .int J261_l3), (4, .int J261_l4), (5, .int J20_l5), (6, .int J261_l6), (7, .int J261_l7), (8, .int J261_l8)] → W p l e { frames := 1, cells := 0, slots := 0, locals := 22 } s m args below meth c H locs 0 0 Q (F0 m 261 ls []) := by
          intro J261_l2 J261_l3 J261_l4 J261_l6 J261_l7 J261_l8 J261_c0_13 J261_a5 H locs ls hJ261_l2 hJ261_l3 hJ261_l4 hK261_J20_l5 hJ261_l8 hq hP hD hS hl
          unfold F_X7_shine_261 at hq
          obtain ⟨z1, ez1⟩ : ∃ y : Int32, y = J20_l5 + 1 := ⟨_, rfl⟩
          refine lv_iinc (v := z1) (lv' := [(5, .int z1), (0, .ref a_this), (1, .int J20_l1), (2, .int J261_l2), (3, .int J261_l3), (4, .int J261_l4), (6, .int J261_l6), (7, .int J261_l7), (8, .int J261_l8)]) hx hb dX7_shine_261 hl (k := 5) rfl (by rw [ez1]; rfl) (Nat.le_of_ble_eq_true rfl) rfl (fun ls hl => ?_)
          have h2 := ib_add hK261_J20_l5 (ib_c 1 1 1 rfl) rfl
          rw [← ez1] at h2
          have h3 : ib z1 1 300 := ib_w 1 300 h2.1 rfl
          have Ez1 := lf_add h2.2 (lf_rf J20_l5) (lf_lc 1 (1 : Int) rfl)
          refine lv_goto (tgt := 20) hx hb dX7_shine_264 rfl ?_
          exact ih20 J20_l1 J261_l2 J261_l3 J261_l4 z1 J261_c0_13 J261_a5 H locs ls (ib_w 0 1 hJ261_l2 rfl) (ib_w 0 1 hJ261_l3 rfl) (ib_w (-1) 300 hJ261_l4 rfl) (ib_w 0 300 h3 rfl) (by rw [← hK20]; rw [lf_u Ez1]; exact hq) (by have := h2.2; have : (1 : Int32).toInt = 1 := rfl; omega) hP hD hS (lv_sub hl [1, 2, 3, 4, 5, 0] rfl)
        have jn260 : ∀ (J260_l2 : Int32) (J260_l3 : Int32) (J260_l6 : Int32) (J260_l7 : Int32) (J260_l8 : Int32) (J260_c0_13 : Int32) (J260_s0 : Int32) (H : Heap) (locs : List Loc) (ls : Array Slot), ib J260_l2 0 1 → ib J260_l3 0 1 → ib J20_l4 (-1) 300 → ib J20_l5 0 299 → ib J260_l8 0 119 → ib J260_s0 0 2147483647 → (O = F_X7_shine_260 (Int32.toInt J20_l1) (Int32.toInt J20_l4) (Int32.toInt J20_l5) (lf_A J20_a5) K20 (Int32.toInt J260_l2) (Int32.toInt J260_l3) (Int32.toInt J260_l6) (Int32.toInt J260_l7) (Int32.toInt J260_l8) (Int32.toInt J260_c0_13) (Int32.toInt J260_s0)) → va_P (dC, dI) vwCl [(wo_7_rririiiirrrrriiii a_this a_this_machine a_this_plan x_this_day a_this_trusts x_this_rule x_this_green x_this_absent x_this_asksReds a_this_cars a_this_gaps a_this_known a_this_left a_this_leaves J260_c0_13 x_this_crossed x_this_went x_this_harmed), (wo_4_iiiiiiirrrirrrrrir a_this_plan x_this_plan_cycle x_this_plan_green x_this_plan_rule x_this_plan_least x_this_plan_away x_this_plan_statements x_this_plan_kinds a_this_plan_calm a_this_plan_pace a_this_plan_trusts x_this_plan_walkers a_this_plan_kindOf a_this_plan_comesAt a_this_plan_comers a_this_plan_names a_this_plan_code x_this_plan_size a_this_plan_spans), (wi_0_12_0 a_this_plan_kindOf cy g_this_plan_kindOf), (wi_0_6_0 a_this_trusts cy g_this_trusts), (wi_0_200_0 a_this_plan_comers cy g_this_plan_comers), (wi_0_300_0 a_this_left cy J20_a5)] H → va_D A [(wo_7_rririiiirrrrriiii a_this a_this_machine a_this_plan x_this_day a_this_trusts x_this_rule x_this_green x_this_absent x_this_asksReds a_this_cars a_this_gaps a_this_known a_this_left a_this_leaves J260_c0_13 x_this_crossed x_this_went x_this_harmed), (wo_4_iiiiiiirrrirrrrrir a_this_plan x_this_plan_cycle x_this_plan_green x_this_plan_rule x_this_plan_least x_this_plan_away x_this_plan_statements x_this_plan_kinds a_this_plan_calm a_this_plan_pace a_this_plan_trusts x_this_plan_walkers a_this_plan_kindOf a_this_plan_comesAt a_this_plan_comers a_this_plan_names a_this_plan_code x_this_plan_size a_this_plan_spans), (wi_0_12_0 a_this_plan_kindOf cy g_this_plan_kindOf), (wi_0_6_0 a_this_trusts cy g_this_trusts), (wi_0_200_0 a_this_plan_comers cy g_this_plan_comers), (wi_0_300_0 a_this_left cy J20_a5)] → va_S A s.heap H locs → lv_has ls 9 [(0, .ref a_this), (1, .int J20_l1), (2, .int J260_l2), (3, .int J260_l3), (4, .int J20_l4), (5, .int J20_l5), (6, .int J260_l6), (7, .int J260_l7), (8, .int J260_l8)] → W p l e { frames := 1, cells := 0, slots := 0, locals := 22 } s m args below meth c H locs 0 0 Q (F0 m 260 ls [.int J260_s0, .int J20_l5, .ref a_this_left]) := by
          intro J260_l2 J260_l3 J260_l6 J260_l7 J260_l8 J260_c0_13 J260_s0 H locs ls hJ260_l2 hJ260_l3 hK260_J20_l4 hK260_J20_l5 hJ260_l8 hJ260_s0 hq hP hD hS hl
          unfold F_X7_shine_260 at hq
          refine va_iast hx hb C0.2.2.2.2.2.1 hP hD hS 5 0 rfl rfl (ib_in 300 hK260_J20_l5 rfl) dX7_shine_260 (fun H locs hP hD hS => ?_)
          replace hP : va_P (dC, dI) vwCl [(wo_7_rririiiirrrrriiii a_this a_this_machine a_this_plan x_this_day a_this_trusts x_this_rule x_this_green x_this_absent x_this_asksReds a_this_cars a_this_gaps a_this_known a_this_left a_this_leaves J260_c0_13 x_this_crossed x_this_went x_this_harmed), (wo_4_iiiiiiirrrirrrrrir a_this_plan x_this_plan_cycle x_this_plan_green x_this_plan_rule x_this_plan_least x_this_plan_away x_this_plan_statements x_this_plan_kinds a_this_plan_calm a_this_plan_pace a_this_plan_trusts x_this_plan_walkers a_this_plan_kindOf a_this_plan_comesAt a_this_plan_comers a_this_plan_names a_this_plan_code x_this_plan_size a_this_plan_spans), (wi_0_12_0 a_this_plan_kindOf cy g_this_plan_kindOf), (wi_0_6_0 a_this_trusts cy g_this_trusts), (wi_0_200_0 a_this_plan_comers cy g_this_plan_comers), (wi_0_300_0 a_this_left cy (upd J20_a5 (Int32.toNatClampNeg J20_l5) J260_s0))] H := hP
          replace hD := k_D hP hD
          generalize ef4 : upd J20_a5 (Int32.toNatClampNeg J20_l5) J260_s0 = f4 at hP hD
          have Ef4 := lf_st ef4 (lf_ra J20_a5) (lf_rf J20_l5) (lf_rf J260_s0)
          exact jn261 J260_l2 J260_l3 J20_l4 J260_l6 J260_l7 J260_l8 J260_c0_13 f4 H locs ls (ib_w 0 1 hJ260_l2 rfl) (ib_w 0 1 hJ260_l3 rfl) (ib_w (-1) 300 hK260_J20_l4 rfl) (ib_w 0 299 hK260_J20_l5 rfl) (ib_w 0 300 hJ260_l8 rfl) (by rw [lf_ua Ef4]; exact hq) hP hD hS (lv_sub hl [0, 1, 2, 3, 4, 5, 6, 7, 8] rfl)
        have jn235 : ∀ (J235_l2 : Int32) (J235_l6 : Int32) (J235_l7 : Int32) (J235_l8 : Int32) (J235_c0_13 : Int32) (J235_l3 : Int32) (H : Heap) (locs : List Loc) (ls : Array Slot), ib J235_l2 0 1 → ib J20_l4 (-1) 300 → ib J20_l5 0 299 → ib J235_l8 0 119 → ib J235_l3 0 1 → (O = F_X7_shine_235 (Int32.toInt x_this_green) (Int32.toInt J20_l1) (Int32.toInt J20_l4) (Int32.toInt J20_l5) (lf_A J20_a5) K20 (Int32.toInt J235_l2) (Int32.toInt J235_l6) (Int32.toInt J235_l7) (Int32.toInt J235_l8) (Int32.toInt J235_c0_13) (Int32.toInt J235_l3)) → va_P (dC, dI) vwCl [(wo_7_rririiiirrrrriiii a_this a_this_machine a_this_plan x_this_day a_this_trusts x_this_rule x_this_green x_this_absent x_this_asksReds a_this_cars a_this_gaps a_this_known a_this_left a_this_leaves J235_c0_13 x_this_crossed x_this_went x_this_harmed), (wo_4_iiiiiiirrrirrrrrir a_this_plan x_this_plan_cycle x_this_plan_green x_this_plan_rule x_this_plan_least x_this_plan_away x_this_plan_statements x_this_plan_kinds a_this_plan_calm a_this_plan_pace a_this_plan_trusts x_this_plan_walkers a_this_plan_kindOf a_this_plan_comesAt a_this_plan_comers a_this_plan_names a_this_plan_code x_this_plan_size a_this_plan_spans), (wi_0_12_0 a_this_plan_kindOf cy g_this_plan_kindOf), (wi_0_6_0 a_this_trusts cy g_this_trusts), (wi_0_200_0 a_this_plan_comers cy g_this_plan_comers), (wi_0_300_0 a_this_left cy J20_a5)] H → va_D A [(wo_7_rririiiirrrrriiii a_this a_this_machine a_this_plan x_this_day a_this_trusts x_this_rule x_this_green x_this_absent x_this_asksReds a_this_cars a_this_gaps a_this_known a_this_left a_this_leaves J235_c0_13 x_this_crossed x_this_went x_this_harmed), (wo_4_iiiiiiirrrirrrrrir a_this_plan x_this_plan_cycle x_this_plan_green x_this_plan_rule x_this_plan_least x_this_plan_away x_this_plan_statements x_this_plan_kinds a_this_plan_calm a_this_plan_pace a_this_plan_trusts x_this_plan_walkers a_this_plan_kindOf a_this_plan_comesAt a_this_plan_comers a_this_plan_names a_this_plan_code x_this_plan_size a_this_plan_spans), (wi_0_12_0 a_this_plan_kindOf cy g_this_plan_kindOf), (wi_0_6_0 a_this_trusts cy g_this_trusts), (wi_0_200_0 a_this_plan_comers cy g_this_plan_comers), (wi_0_300_0 a_this_left cy J20_a5)] → va_S A s.heap H locs → lv_has ls 9 [(0, .ref a_this), (1, .int J20_l1), (2, .int J235_l2), (3, .int J235_l3), (4, .int J20_l4), (5, .int J20_l5), (6, .int J235_l6), (7, .int J235_l7), (8, .int J235_l8)] → W p l e { frames := 1, cells := 0, slots := 0, locals := 22 } s m args below meth c H locs 0 0 Q (F0 m 235 ls []) := by
          as_aux_lemma =>
            intro J235_l2 J235_l6 J235_l7 J235_l8 J235_c0_13 J235_l3 H locs ls hJ235_l2 hK235_J20_l4 hK235_J20_l5 hJ235_l8 hJ235_l3 hq hP hD hS hl
            unfold F_X7_shine_235 at hq
            refine lv_aload_n hx hb dX7_shine_235 rfl (lv_at hl 0 rfl) ?_
            refine k_get C0 fg_X7_41 hP 0 rfl rfl dX7_shine_236 ?_
            refine lv_iload hx hb dX7_shine_239 (lv_at hl 5 rfl) ?_
            refine lv_iload_n hx hb dX7_shine_241 rfl (lv_at hl 3 rfl) ?_
            refine lv_if_eq (tgt := 259) hx hb dX7_shine_242 rfl (fun c5 => ?_) (fun c5 => ?_)
            · replace hq := lf_pos hq (lf_eq (lf_rf J235_l3) (lf_lc 0 (0 : Int) rfl) c5)
              have h6 := ib_eq hJ235_l3 (ib_c 0 0 0 rfl) c5
              have h7 : ib J235_l3 0 0 := ib_w 0 0 h6.1 rfl
              refine lv_iconst (v := 0) hx hb dX7_shine_259 rfl ?_
              exact jn260 J235_l2 J235_l3 J235_l6 J235_l7 J235_l8 J235_c0_13 0 H locs ls (ib_w 0 1 hJ235_l2 rfl) (ib_w 0 1 h7 rfl) (ib_w (-1) 300 hK235_J20_l4 rfl) (ib_w 0 299 hK235_J20_l5 rfl) (ib_w 0 119 hJ235_l8 rfl) (ib_w 0 2147483647 (ib_c 0 0 0 rfl) rfl) (by try simp only [show (0 : Int32).toInt = (0 : Int) from rfl]; exact hq) hP hD hS (lv_sub hl [0, 1, 2, 3, 4, 5, 6, 7, 8] rfl)
            · replace hq := lf_neg hq (lf_ne (lf_rf J235_l3) (lf_lc 0 (0 : Int) rfl) c5)
              have h8 : ib J235_l3 1 1 := ib_w 1 1 (ib_ne_lo 0 hJ235_l3 rfl c5) rfl
              refine lv_aload_n hx hb dX7_shine_245 rfl (lv_at hl 0 rfl) ?_
              refine k_get C0 fg_X7_22 hP 0 rfl rfl dX7_shine_246 ?_
              refine lv_iload hx hb dX7_shine_249 (lv_at hl 8 rfl) ?_
              refine lv_isub hx hb dX7_shine_251 ?_
              refine lv_topi (fun z9 ez9 => ?_)
              have Ez9 := lf_op lf_isub ez9 (lf_rf x_this_green) (lf_rf J235_l8)
              refine lv_iconst (v := 0) hx hb dX7_shine_252 rfl ?_
              refine va_mmax hx hb (by rw [C0.2.2.1]; exact hl.1.symm) C0.2.2.2.1 (C0.2.2.2.2.1 _ wd875) (C0.2.2.2.2.1 _ wd876) (C0.2.2.2.2.1 _ wd299) (C0.2.2.2.2.1 _ wd877) (Nat.le_of_ble_eq_true rfl) (Nat.le_of_ble_eq_true rfl) (Nat.le_of_ble_eq_true rfl) (Nat.le_of_ble_eq_true rfl) dX7_shine_253 ?_
              refine lv_topi (fun z10 ez10 => ?_)
              have h11 : ib z10 0 2147483647 := by rw [ez10]; exact ib_w 0 2147483647 (ib_max (ib_any z9) (ib_c 0 0 0 rfl)) rfl
              have Ez10 := lf_max ez10 Ez9 (lf_lc 0 (0 : Int) rfl)
              refine lv_goto (tgt := 260) hx hb dX7_shine_256 rfl ?_
              exact jn260 J235_l2 J235_l3 J235_l6 J235_l7 J235_l8 J235_c0_13 z10 H locs ls (ib_w 0 1 hJ235_l2 rfl) (ib_w 0 1 h8 rfl) (ib_w (-1) 300 hK235_J20_l4 rfl) (ib_w 0 299 hK235_J20_l5 rfl) (ib_w 0 119 hJ235_l8 rfl) (ib_w 0 2147483647 h11 rfl) (by rw [lf_u Ez10]; exact hq) hP hD hS (lv_sub hl [0, 1, 2, 3, 4, 5, 6, 7, 8] rfl)
        have jn232 : ∀ (J232_l2 : Int32) (J232_l6 : Int32) (J232_l7 : Int32) (J232_l8 : Int32) (J232_c0_13 : Int32) (J232_s0 : Int32) (H : Heap) (locs : List Loc) (ls : Array Slot), ib J232_l2 0 1 → ib J20_l3 0 1 → ib J20_l4 (-1) 300 → ib J20_l5 0 299 → ib J232_l8 0 0 → ib J232_s0 0 1 → (O = F_X7_shine_232 (Int32.toInt x_this_green) (Int32.toInt J20_l1) (Int32.toInt J20_l4) (Int32.toInt J20_l5) (lf_A J20_a5) K20 (Int32.toInt J232_l2) (Int32.toInt J232_l6) (Int32.toInt J232_l7) (Int32.toInt J232_l8) (Int32.toInt J232_c0_13) (Int32.toInt J232_s0)) → va_P (dC, dI) vwCl [(wo_7_rririiiirrrrriiii a_this a_this_machine a_this_plan x_this_day a_this_trusts x_this_rule x_this_green x_this_absent x_this_asksReds a_this_cars a_this_gaps a_this_known a_this_left a_this_leaves J232_c0_13 x_this_crossed x_this_went x_this_harmed), (wo_4_iiiiiiirrrirrrrrir a_this_plan x_this_plan_cycle x_this_plan_green x_this_plan_rule x_this_plan_least x_this_plan_away x_this_plan_statements x_this_plan_kinds a_this_plan_calm a_this_plan_pace a_this_plan_trusts x_this_plan_walkers a_this_plan_kindOf a_this_plan_comesAt a_this_plan_comers a_this_plan_names a_this_plan_code x_this_plan_size a_this_plan_spans), (wi_0_12_0 a_this_plan_kindOf cy g_this_plan_kindOf), (wi_0_6_0 a_this_trusts cy g_this_trusts), (wi_0_200_0 a_this_plan_comers cy g_this_plan_comers), (wi_0_300_0 a_this_left cy J20_a5)] H → va_D A [(wo_7_rririiiirrrrriiii a_this a_this_machine a_this_plan x_this_day a_this_trusts x_this_rule x_this_green x_this_absent x_this_asksReds a_this_cars a_this_gaps a_this_known a_this_left a_this_leaves J232_c0_13 x_this_crossed x_this_went x_this_harmed), (wo_4_iiiiiiirrrirrrrrir a_this_plan x_this_plan_cycle x_this_plan_green x_this_plan_rule x_this_plan_least x_this_plan_away x_this_plan_statements x_this_plan_kinds a_this_plan_calm a_this_plan_pace a_this_plan_trusts x_this_plan_walkers a_this_plan_kindOf a_this_plan_comesAt a_this_plan_comers a_this_plan_names a_this_plan_code x_this_plan_size a_this_plan_spans), (wi_0_12_0 a_this_plan_kindOf cy g_this_plan_kindOf), (wi_0_6_0 a_this_trusts cy g_this_trusts), (wi_0_200_0 a_this_plan_comers cy g_this_plan_comers), (wi_0_300_0 a_this_left cy J20_a5)] → va_S A s.heap H locs → lv_has ls 9 [(0, .ref a_this), (1, .int J20_l1), (2, .int J232_l2), (3, .int J20_l3), (4, .int J20_l4), (5, .int J20_l5), (6, .int J232_l6), (7, .int J232_l7), (8, .int J232_l8)] → W p l e { frames := 1, cells := 0, slots := 0, locals := 22 } s m args below meth c H locs 0 0 Q (F0 m 232 ls [.int J232_s0]) := by
          intro J232_l2 J232_l6 J232_l7 J232_l8 J232_c0_13 J232_s0 H locs ls hJ232_l2 hK232_J20_l3 hK232_J20_l4 hK232_J20_l5 hJ232_l8 hJ232_s0 hq hP hD hS hl
          unfold F_X7_shine_232 at hq
          refine lv_istore_n (lv' := [(3, .int J232_s0), (0, .ref a_this), (1, .int J20_l1), (2, .int J232_l2), (4, .int J20_l4), (5, .int J20_l5), (6, .int J232_l6), (7, .int J232_l7), (8, .int J232_l8)]) hx hb dX7_shine_232 rfl hl (Nat.le_of_ble_eq_true rfl) rfl (fun ls hl => ?_)
          refine lv_iconst (v := 0) hx hb dX7_shine_233 rfl ?_
          refine lv_istore_n (lv' := [(2, .int 0), (3, .int J232_s0), (0, .ref a_this), (1, .int J20_l1), (4, .int J20_l4), (5, .int J20_l5), (6, .int J232_l6), (7, .int J232_l7), (8, .int J232_l8)]) hx hb dX7_shine_234 rfl hl (Nat.le_of_ble_eq_true rfl) rfl (fun ls hl => ?_)
          exact jn235 0 J232_l6 J232_l7 J232_l8 J232_c0_13 J232_s0 H locs ls (ib_w 0 1 (ib_c 0 0 0 rfl) rfl) (ib_w (-1) 300 hK232_J20_l4 rfl) (ib_w 0 299 hK232_J20_l5 rfl) (ib_w 0 119 hJ232_l8 rfl) (ib_w 0 1 hJ232_s0 rfl) (by try simp only [show (0 : Int32).toInt = (0 : Int) from rfl]; exact hq) hP hD hS (lv_sub hl [2, 3, 0, 1, 4, 5, 6, 7, 8] rfl)
        have jn227 : ∀ (J227_l2 : Int32) (J227_l6 : Int32) (J227_l7 : Int32) (J227_l8 : Int32) (J227_c0_13 : Int32) (H : Heap) (locs : List Loc) (ls : Array Slot), ib J227_l2 0 1 → ib J20_l3 0 1 → ib J20_l4 (-1) 300 → ib J20_l5 0 299 → ib J227_l8 0 0 → (O = F_X7_shine_227 (Int32.toInt x_this_green) (Int32.toInt J20_l1) (Int32.toInt J20_l4) (Int32.toInt J20_l5) (lf_A J20_a5) K20 (Int32.toInt J227_l2) (Int32.toInt J227_l6) (Int32.toInt J227_l7) (Int32.toInt J227_l8) (Int32.toInt J227_c0_13)) → va_P (dC, dI) vwCl [(wo_7_rririiiirrrrriiii a_this a_this_machine a_this_plan x_this_day a_this_trusts x_this_rule x_this_green x_this_absent x_this_asksReds a_this_cars a_this_gaps a_this_known a_this_left a_this_leaves J227_c0_13 x_this_crossed x_this_went x_this_harmed), (wo_4_iiiiiiirrrirrrrrir a_this_plan x_this_plan_cycle x_this_plan_green x_this_plan_rule x_this_plan_least x_this_plan_away x_this_plan_statements x_this_plan_kinds a_this_plan_calm a_this_plan_pace a_this_plan_trusts x_this_plan_walkers a_this_plan_kindOf a_this_plan_comesAt a_this_plan_comers a_this_plan_names a_this_plan_code x_this_plan_size a_this_plan_spans), (wi_0_12_0 a_this_plan_kindOf cy g_this_plan_kindOf), (wi_0_6_0 a_this_trusts cy g_this_trusts), (wi_0_200_0 a_this_plan_comers cy g_this_plan_comers), (wi_0_300_0 a_this_left cy J20_a5)] H → va_D A [(wo_7_rririiiirrrrriiii a_this a_this_machine a_this_plan x_this_day a_this_trusts x_this_rule x_this_green x_this_absent x_this_asksReds a_this_cars a_this_gaps a_this_known a_this_left a_this_leaves J227_c0_13 x_this_crossed x_this_went x_this_harmed), (wo_4_iiiiiiirrrirrrrrir a_this_plan x_this_plan_cycle x_this_plan_green x_this_plan_rule x_this_plan_least x_this_plan_away x_this_plan_statements x_this_plan_kinds a_this_plan_calm a_this_plan_pace a_this_plan_trusts x_this_plan_walkers a_this_plan_kindOf a_this_plan_comesAt a_this_plan_comers a_this_plan_names a_this_plan_code x_this_plan_size a_this_plan_spans), (wi_0_12_0 a_this_plan_kindOf cy g_this_plan_kindOf), (wi_0_6_0 a_this_trusts cy g_this_trusts), (wi_0_200_0 a_this_plan_comers cy g_this_plan_comers), (wi_0_300_0 a_this_left cy J20_a5)] → va_S A s.heap H locs → lv_has ls 9 [(0, .ref a_this), (1, .int J20_l1), (2, .int J227_l2), (3, .int J20_l3), (4, .int J20_l4), (5, .int J20_l5), (6, .int J227_l6), (7, .int J227_l7), (8, .int J227_l8)] → W p l e { frames := 1, cells := 0, slots := 0, locals := 22 } s m args below meth c H locs 0 0 Q (F0 m 227 ls []) := by
          intro J227_l2 J227_l6 J227_l7 J227_l8 J227_c0_13 H locs ls hJ227_l2 hK227_J20_l3 hK227_J20_l4 hK227_J20_l5 hJ227_l8 hq hP hD hS hl
          unfold F_X7_shine_227 at hq
          refine lv_iconst (v := 1) hx hb dX7_shine_227 rfl ?_
          refine lv_goto (tgt := 232) hx hb dX7_shine_228 rfl ?_
          exact jn232 J227_l2 J227_l6 J227_l7 J227_l8 J227_c0_13 1 H locs ls (ib_w 0 1 hJ227_l2 rfl) (ib_w 0 1 hK227_J20_l3 rfl) (ib_w (-1) 300 hK227_J20_l4 rfl) (ib_w 0 299 hK227_J20_l5 rfl) (ib_w 0 0 hJ227_l8 rfl) (ib_w 0 1 (ib_c 1 1 1 rfl) rfl) (by try simp only [show (1 : Int32).toInt = (1 : Int) from rfl]; exact hq) hP hD hS (lv_sub hl [0, 1, 2, 3, 4, 5, 6, 7, 8] rfl)
        have jn206 : ∀ (J206_l2 : Int32) (J206_l3 : Int32) (J206_l6 : Int32) (J206_l7 : Int32) (J206_l8 : Int32) (J206_c0_13 : Int32) (J206_a5 : Nat → Int32) (J206_s0 : Int32) (H : Heap) (locs : List Loc) (ls : Array Slot), ib J206_l2 0 1 → ib J206_l3 0 1 → ib J20_l4 (-1) 300 → ib J20_l5 0 299 → ib J206_l8 0 300 → ib x_this_rule 1 1 → ib J206_s0 (-1) 300 → (O = F_X7_shine_206 (Int32.toInt J20_l1) (Int32.toInt J20_l5) K20 (Int32.toInt J206_l2) (Int32.toInt J206_l3) (Int32.toInt J206_l6) (Int32.toInt J206_l7) (Int32.toInt J206_l8) (Int32.toInt J206_c0_13) (lf_A J206_a5) (Int32.toInt J206_s0)) → va_P (dC, dI) vwCl [(wo_7_rririiiirrrrriiii a_this a_this_machine a_this_plan x_this_day a_this_trusts x_this_rule x_this_green x_this_absent x_this_asksReds a_this_cars a_this_gaps a_this_known a_this_left a_this_leaves J206_c0_13 x_this_crossed x_this_went x_this_harmed), (wo_4_iiiiiiirrrirrrrrir a_this_plan x_this_plan_cycle x_this_plan_green x_this_plan_rule x_this_plan_least x_this_plan_away x_this_plan_statements x_this_plan_kinds a_this_plan_calm a_this_plan_pace a_this_plan_trusts x_this_plan_walkers a_this_plan_kindOf a_this_plan_comesAt a_this_plan_comers a_this_plan_names a_this_plan_code x_this_plan_size a_this_plan_spans), (wi_0_12_0 a_this_plan_kindOf cy g_this_plan_kindOf), (wi_0_6_0 a_this_trusts cy g_this_trusts), (wi_0_200_0 a_this_plan_comers cy g_this_plan_comers), (wi_0_300_0 a_this_left cy J206_a5)] H → va_D A [(wo_7_rririiiirrrrriiii a_this a_this_machine a_this_plan x_this_day a_this_trusts x_this_rule x_this_green x_this_absent x_this_asksReds a_this_cars a_this_gaps a_this_known a_this_left a_this_leaves J206_c0_13 x_this_crossed x_this_went x_this_harmed), (wo_4_iiiiiiirrrirrrrrir a_this_plan x_this_plan_cycle x_this_plan_green x_this_plan_rule x_this_plan_least x_this_plan_away x_this_plan_statements x_this_plan_kinds a_this_plan_calm a_this_plan_pace a_this_plan_trusts x_this_plan_walkers a_this_plan_kindOf a_this_plan_comesAt a_this_plan_comers a_this_plan_names a_this_plan_code x_this_plan_size a_this_plan_spans), (wi_0_12_0 a_this_plan_kindOf cy g_this_plan_kindOf), (wi_0_6_0 a_this_trusts cy g_this_trusts), (wi_0_200_0 a_this_plan_comers cy g_this_plan_comers), (wi_0_300_0 a_this_left cy J206_a5)] → va_S A s.heap H locs → lv_has ls 9 [(0, .ref a_this), (1, .int J20_l1), (2, .int J206_l2), (3, .int J206_l3), (4, .int J20_l4), (5, .int J20_l5), (6, .int J206_l6), (7, .int J206_l7), (8, .int J206_l8)] → W p l e { frames := 1, cells := 0, slots := 0, locals := 22 } s m args below meth c H locs 0 0 Q (F0 m 206 ls [.int J206_s0]) := by
          intro J206_l2 J206_l3 J206_l6 J206_l7 J206_l8 J206_c0_13 J206_a5 J206_s0 H locs ls hJ206_l2 hJ206_l3 hK206_J20_l4 hK206_J20_l5 hJ206_l8 hK206_x_this_rule hJ206_s0 hq hP hD hS hl
          unfold F_X7_shine_206 at hq
          refine lv_istore (lv' := [(4, .int J206_s0), (0, .ref a_this), (1, .int J20_l1), (2, .int J206_l2), (3, .int J206_l3), (5, .int J20_l5), (6, .int J206_l6), (7, .int J206_l7), (8, .int J206_l8)]) hx hb dX7_shine_206 hl (Nat.le_of_ble_eq_true rfl) rfl (fun ls hl => ?_)
          refine lv_goto (tgt := 261) hx hb dX7_shine_208 rfl ?_
          exact jn261 J206_l2 J206_l3 J206_s0 J206_l6 J206_l7 J206_l8 J206_c0_13 J206_a5 H locs ls (ib_w 0 1 hJ206_l2 rfl) (ib_w 0 1 hJ206_l3 rfl) (ib_w (-1) 300 hJ206_s0 rfl) (ib_w 0 299 hK206_J20_l5 rfl) (ib_w 0 300 hJ206_l8 rfl) (by exact hq) hP hD hS (lv_sub hl [1, 2, 3, 4, 0, 5, 6, 7, 8] rfl)
        have jn188 : ∀ (J188_l2 : Int32) (J188_l3 : Int32) (J188_l6 : Int32) (J188_l7 : Int32) (J188_l8 : Int32) (J188_s0 : Int32) (J188_c0_13 : Int32) (H : Heap) (locs : List Loc) (ls : Array Slot), ib J188_l2 0 1 → ib J188_l3 0 1 → ib J20_l4 (-1) 300 → ib J20_l5 0 299 → ib J188_l8 0 300 → ib x_this_rule 1 1 → (O = F_X7_shine_188 (Int32.toInt J20_l1) (Int32.toInt J20_l4) (Int32.toInt J20_l5) (lf_A J20_a5) K20 (Int32.toInt J188_l2) (Int32.toInt J188_l3) (Int32.toInt J188_l6) (Int32.toInt J188_l7) (Int32.toInt J188_l8) (Int32.toInt J188_s0) (Int32.toInt J188_c0_13)) → va_P (dC, dI) vwCl [(wo_7_rririiiirrrrriiii a_this a_this_machine a_this_plan x_this_day a_this_trusts x_this_rule x_this_green x_this_absent x_this_asksReds a_this_cars a_this_gaps a_this_known a_this_left a_this_leaves J188_c0_13 x_this_crossed x_this_went x_this_harmed), (wo_4_iiiiiiirrrirrrrrir a_this_plan x_this_plan_cycle x_this_plan_green x_this_plan_rule x_this_plan_least x_this_plan_away x_this_plan_statements x_this_plan_kinds a_this_plan_calm a_this_plan_pace a_this_plan_trusts x_this_plan_walkers a_this_plan_kindOf a_this_plan_comesAt a_this_plan_comers a_this_plan_names a_this_plan_code x_this_plan_size a_this_plan_spans), (wi_0_12_0 a_this_plan_kindOf cy g_this_plan_kindOf), (wi_0_6_0 a_this_trusts cy g_this_trusts), (wi_0_200_0 a_this_plan_comers cy g_this_plan_comers), (wi_0_300_0 a_this_left cy J20_a5)] H → va_D A [(wo_7_rririiiirrrrriiii a_this a_this_machine a_this_plan x_this_day a_this_trusts x_this_rule x_this_green x_this_absent x_this_asksReds a_this_cars a_this_gaps a_this_known a_this_left a_this_leaves J188_c0_13 x_this_crossed x_this_went x_this_harmed), (wo_4_iiiiiiirrrirrrrrir a_this_plan x_this_plan_cycle x_this_plan_green x_this_plan_rule x_this_plan_least x_this_plan_away x_this_plan_statements x_this_plan_kinds a_this_plan_calm a_this_plan_pace a_this_plan_trusts x_this_plan_walkers a_this_plan_kindOf a_this_plan_comesAt a_this_plan_comers a_this_plan_names a_this_plan_code x_this_plan_size a_this_plan_spans), (wi_0_12_0 a_this_plan_kindOf cy g_this_plan_kindOf), (wi_0_6_0 a_this_trusts cy g_this_trusts), (wi_0_200_0 a_this_plan_comers cy g_this_plan_comers), (wi_0_300_0 a_this_left cy J20_a5)] → va_S A s.heap H locs → lv_has ls 9 [(0, .ref a_this), (1, .int J20_l1), (2, .int J188_l2), (3, .int J188_l3), (4, .int J20_l4), (5, .int J20_l5), (6, .int J188_l6), (7, .int J188_l7), (8, .int J188_l8)] → W p l e { frames := 1, cells := 0, slots := 0, locals := 22 } s m args below meth c H locs 0 0 Q (F0 m 188 ls [.int J188_s0, .int J20_l5, .ref a_this_left]) := by
          as_aux_lemma =>
            intro J188_l2 J188_l3 J188_l6 J188_l7 J188_l8 J188_s0 J188_c0_13 H locs ls hJ188_l2 hJ188_l3 hK188_J20_l4 hK188_J20_l5 hJ188_l8 hK188_x_this_rule hq hP hD hS hl
            unfold F_X7_shine_188 at hq
            refine va_iast hx hb C0.2.2.2.2.2.1 hP hD hS 5 0 rfl rfl (ib_in 300 hK188_J20_l5 rfl) dX7_shine_188 (fun H locs hP hD hS => ?_)
            replace hP : va_P (dC, dI) vwCl [(wo_7_rririiiirrrrriiii a_this a_this_machine a_this_plan x_this_day a_this_trusts x_this_rule x_this_green x_this_absent x_this_asksReds a_this_cars a_this_gaps a_this_known a_this_left a_this_leaves J188_c0_13 x_this_crossed x_this_went x_this_harmed), (wo_4_iiiiiiirrrirrrrrir a_this_plan x_this_plan_cycle x_this_plan_green x_this_plan_rule x_this_plan_least x_this_plan_away x_this_plan_statements x_this_plan_kinds a_this_plan_calm a_this_plan_pace a_this_plan_trusts x_this_plan_walkers a_this_plan_kindOf a_this_plan_comesAt a_this_plan_comers a_this_plan_names a_this_plan_code x_this_plan_size a_this_plan_spans), (wi_0_12_0 a_this_plan_kindOf cy g_this_plan_kindOf), (wi_0_6_0 a_this_trusts cy g_this_trusts), (wi_0_200_0 a_this_plan_comers cy g_this_plan_comers), (wi_0_300_0 a_this_left cy (upd J20_a5 (Int32.toNatClampNeg J20_l5) J188_s0))] H := hP
            replace hD := k_D hP hD
            generalize ef12 : upd J20_a5 (Int32.toNatClampNeg J20_l5) J188_s0 = f12 at hP hD
            have Ef12 := lf_st ef12 (lf_ra J20_a5) (lf_rf J20_l5) (lf_rf J188_s0)
            refine lv_aload_n hx hb dX7_shine_189 rfl (lv_at hl 0 rfl) ?_
            refine k_get C0 fg_X7_41 hP 0 rfl rfl dX7_shine_190 ?_
            refine lv_iload hx hb dX7_shine_193 (lv_at hl 5 rfl) ?_
            refine va_iald hx hb C0.2.2.2.2.2.1 hP 5 0 rfl rfl (ib_in 300 hK188_J20_l5 rfl) dX7_shine_195 ?_
            refine lv_topi (fun z13 ez13 => ?_)
            have Ez13 := lf_ld ez13 Ef12 (lf_rf J20_l5)
            refine lv_if_le (tgt := 204) hx hb dX7_shine_196 rfl (fun c14 => ?_) (fun c14 => ?_)
            · replace hq := lf_pos hq (lf_le Ez13 (lf_lc 0 (0 : Int) rfl) c14)
              have h15 := ib_le (ib_any z13) (ib_c 0 0 0 rfl) c14
              have h16 : ib z13 (-2147483648) 0 := ib_w (-2147483648) 0 h15.1 rfl
              refine lv_iload hx hb dX7_shine_204 (lv_at hl 4 rfl) ?_
              exact jn206 J188_l2 J188_l3 J188_l6 J188_l7 J188_l8 J188_c0_13 f12 J20_l4 H locs ls (ib_w 0 1 hJ188_l2 rfl) (ib_w 0 1 hJ188_l3 rfl) (ib_w (-1) 300 hK188_J20_l4 rfl) (ib_w 0 299 hK188_J20_l5 rfl) (ib_w 0 300 hJ188_l8 rfl) (ib_w 1 1 hK188_x_this_rule rfl) (ib_w (-1) 300 hK188_J20_l4 rfl) (by rw [lf_ua Ef12]; exact hq) hP hD hS (lv_sub hl [0, 1, 2, 3, 4, 5, 6, 7, 8] rfl)
            · replace hq := lf_neg hq (lf_nle Ez13 (lf_lc 0 (0 : Int) rfl) c14)
              have h17 := ib_nle (ib_any z13) (ib_c 0 0 0 rfl) c14
              have h18 : ib z13 1 2147483647 := ib_w 1 2147483647 h17.1 rfl
              refine lv_iload hx hb dX7_shine_199 (lv_at hl 5 rfl) ?_
              refine lv_goto (tgt := 206) hx hb dX7_shine_201 rfl ?_
              exact jn206 J188_l2 J188_l3 J188_l6 J188_l7 J188_l8 J188_c0_13 f12 J20_l5 H locs ls (ib_w 0 1 hJ188_l2 rfl) (ib_w 0 1 hJ188_l3 rfl) (ib_w (-1) 300 hK188_J20_l4 rfl) (ib_w 0 299 hK188_J20_l5 rfl) (ib_w 0 300 hJ188_l8 rfl) (ib_w 1 1 hK188_x_this_rule rfl) (ib_w (-1) 300 hK188_J20_l5 rfl) (by rw [lf_ua Ef12]; exact hq) hP hD hS (lv_sub hl [0, 1, 2, 3, 4, 5, 6, 7, 8] rfl)
        have jn162 : ∀ (J162_l2 : Int32) (J162_l3 : Int32) (J162_l6 : Int32) (J162_l7 : Int32) (J162_l8 : Int32) (J162_c0_13 : Int32) (J162_s0 : Int32) (H : Heap) (locs : List Loc) (ls : Array Slot), ib J162_l2 0 1 → ib J162_l3 0 1 → ib J20_l4 (-1) 300 → ib J20_l5 0 299 → ib J162_l8 0 119 → ib x_this_rule 1 1 → ib J162_s0 0 1 → (O = F_X7_shine_162 (Int32.toInt x_this_green) (Int32.toInt J20_l1) (Int32.toInt J20_l4) (Int32.toInt J20_l5) (lf_A J20_a5) K20 (Int32.toInt J162_l2) (Int32.toInt J162_l3) (Int32.toInt J162_l6) (Int32.toInt J162_l7) (Int32.toInt J162_l8) (Int32.toInt J162_c0_13) (Int32.toInt J162_s0)) → va_P (dC, dI) vwCl [(wo_7_rririiiirrrrriiii a_this a_this_machine a_this_plan x_this_day a_this_trusts x_this_rule x_this_green x_this_absent x_this_asksReds a_this_cars a_this_gaps a_this_known a_this_left a_this_leaves J162_c0_13 x_this_crossed x_this_went x_this_harmed), (wo_4_iiiiiiirrrirrrrrir a_this_plan x_this_plan_cycle x_this_plan_green x_this_plan_rule x_this_plan_least x_this_plan_away x_this_plan_statements x_this_plan_kinds a_this_plan_calm a_this_plan_pace a_this_plan_trusts x_this_plan_walkers a_this_plan_kindOf a_this_plan_comesAt a_this_plan_comers a_this_plan_names a_this_plan_code x_this_plan_size a_this_plan_spans), (wi_0_12_0 a_this_plan_kindOf cy g_this_plan_kindOf), (wi_0_6_0 a_this_trusts cy g_this_trusts), (wi_0_200_0 a_this_plan_comers cy g_this_plan_comers), (wi_0_300_0 a_this_left cy J20_a5)] H → va_D A [(wo_7_rririiiirrrrriiii a_this a_this_machine a_this_plan x_this_day a_this_trusts x_this_rule x_this_green x_this_absent x_this_asksReds a_this_cars a_this_gaps a_this_known a_this_left a_this_leaves J162_c0_13 x_this_crossed x_this_went x_this_harmed), (wo_4_iiiiiiirrrirrrrrir a_this_plan x_this_plan_cycle x_this_plan_green x_this_plan_rule x_this_plan_least x_this_plan_away x_this_plan_statements x_this_plan_kinds a_this_plan_calm a_this_plan_pace a_this_plan_trusts x_this_plan_walkers a_this_plan_kindOf a_this_plan_comesAt a_this_plan_comers a_this_plan_names a_this_plan_code x_this_plan_size a_this_plan_spans), (wi_0_12_0 a_this_plan_kindOf cy g_this_plan_kindOf), (wi_0_6_0 a_this_trusts cy g_this_trusts), (wi_0_200_0 a_this_plan_comers cy g_this_plan_comers), (wi_0_300_0 a_this_left cy J20_a5)] → va_S A s.heap H locs → lv_has ls 9 [(0, .ref a_this), (1, .int J20_l1), (2, .int J162_l2), (3, .int J162_l3), (4, .int J20_l4), (5, .int J20_l5), (6, .int J162_l6), (7, .int J162_l7), (8, .int J162_l8)] → W p l e { frames := 1, cells := 0, slots := 0, locals := 22 } s m args below meth c H locs 0 0 Q (F0 m 162 ls [.int J162_s0]) := by
          as_aux_lemma =>
            intro J162_l2 J162_l3 J162_l6 J162_l7 J162_l8 J162_c0_13 J162_s0 H locs ls hJ162_l2 hJ162_l3 hK162_J20_l4 hK162_J20_l5 hJ162_l8 hK162_x_this_rule hJ162_s0 hq hP hD hS hl
            unfold F_X7_shine_162 at hq
            refine lv_istore_n (lv' := [(2, .int J162_s0), (0, .ref a_this), (1, .int J20_l1), (3, .int J162_l3), (4, .int J20_l4), (5, .int J20_l5), (6, .int J162_l6), (7, .int J162_l7), (8, .int J162_l8)]) hx hb dX7_shine_162 rfl hl (Nat.le_of_ble_eq_true rfl) rfl (fun ls hl => ?_)
            refine lv_aload_n hx hb dX7_shine_163 rfl (lv_at hl 1 rfl) ?_
            refine k_get C0 fg_X7_41 hP 0 rfl rfl dX7_shine_164 ?_
            refine lv_iload hx hb dX7_shine_167 (lv_at hl 5 rfl) ?_
            refine lv_iload_n hx hb dX7_shine_169 rfl (lv_at hl 3 rfl) ?_
            refine lv_if_eq (tgt := 180) hx hb dX7_shine_170 rfl (fun c19 => ?_) (fun c19 => ?_)
            · replace hq := lf_pos hq (lf_eq (lf_rf J162_l3) (lf_lc 0 (0 : Int) rfl) c19)
              have h20 := ib_eq hJ162_l3 (ib_c 0 0 0 rfl) c19
              have h21 : ib J162_l3 0 0 := ib_w 0 0 h20.1 rfl
              refine lv_iload hx hb dX7_shine_180 (lv_at hl 6 rfl) ?_
              refine lv_iconst (v := 1) hx hb dX7_shine_182 rfl ?_
              refine lv_isub hx hb dX7_shine_183 ?_
              refine lv_topi (fun z22 ez22 => ?_)
              have Ez22 := lf_op lf_isub ez22 (lf_rf J162_l6) (lf_lc 1 (1 : Int) rfl)
              refine lv_iconst (v := 0) hx hb dX7_shine_184 rfl ?_
              refine va_mmax hx hb (by rw [C0.2.2.1]; exact hl.1.symm) C0.2.2.2.1 (C0.2.2.2.2.1 _ wd875) (C0.2.2.2.2.1 _ wd876) (C0.2.2.2.2.1 _ wd299) (C0.2.2.2.2.1 _ wd877) (Nat.le_of_ble_eq_true rfl) (Nat.le_of_ble_eq_true rfl) (Nat.le_of_ble_eq_true rfl) (Nat.le_of_ble_eq_true rfl) dX7_shine_185 ?_
              refine lv_topi (fun z23 ez23 => ?_)
              have h24 : ib z23 0 2147483647 := by rw [ez23]; exact ib_w 0 2147483647 (ib_max (ib_any z22) (ib_c 0 0 0 rfl)) rfl
              have Ez23 := lf_max ez23 Ez22 (lf_lc 0 (0 : Int) rfl)
              exact jn188 J162_s0 J162_l3 J162_l6 J162_l7 J162_l8 z23 J162_c0_13 H locs ls (ib_w 0 1 hJ162_s0 rfl) (ib_w 0 1 h21 rfl) (ib_w (-1) 300 hK162_J20_l4 rfl) (ib_w 0 299 hK162_J20_l5 rfl) (ib_w 0 300 hJ162_l8 rfl) (ib_w 1 1 hK162_x_this_rule rfl) (by rw [lf_u Ez23]; exact hq) hP hD hS (lv_sub hl [1, 2, 0, 3, 4, 5, 6, 7, 8] rfl)
            · replace hq := lf_neg hq (lf_ne (lf_rf J162_l3) (lf_lc 0 (0 : Int) rfl) c19)
              have h25 : ib J162_l3 1 1 := ib_w 1 1 (ib_ne_lo 0 hJ162_l3 rfl c19) rfl
              refine lv_aload_n hx hb dX7_shine_173 rfl (lv_at hl 1 rfl) ?_
              refine k_get C0 fg_X7_22 hP 0 rfl rfl dX7_shine_174 ?_
              refine lv_goto (tgt := 188) hx hb dX7_shine_177 rfl ?_
              exact jn188 J162_s0 J162_l3 J162_l6 J162_l7 J162_l8 x_this_green J162_c0_13 H locs ls (ib_w 0 1 hJ162_s0 rfl) (ib_w 0 1 h25 rfl) (ib_w (-1) 300 hK162_J20_l4 rfl) (ib_w 0 299 hK162_J20_l5 rfl) (ib_w 0 300 hJ162_l8 rfl) (ib_w 1 1 hK162_x_this_rule rfl) (by exact hq) hP hD hS (lv_sub hl [1, 2, 0, 3, 4, 5, 6, 7, 8] rfl)
        have jn161 : ∀ (J161_l2 : Int32) (J161_l3 : Int32) (J161_l6 : Int32) (J161_l7 : Int32) (J161_l8 : Int32) (J161_c0_13 : Int32) (H : Heap) (locs : List Loc) (ls : Array Slot), ib J161_l2 0 1 → ib J161_l3 0 1 → ib J20_l4 (-1) 300 → ib J20_l5 0 299 → ib J161_l8 0 119 → ib x_this_rule 1 1 → (O = F_X7_shine_161 (Int32.toInt x_this_green) (Int32.toInt J20_l1) (Int32.toInt J20_l4) (Int32.toInt J20_l5) (lf_A J20_a5) K20 (Int32.toInt J161_l2) (Int32.toInt J161_l3) (Int32.toInt J161_l6) (Int32.toInt J161_l7) (Int32.toInt J161_l8) (Int32.toInt J161_c0_13)) → va_P (dC, dI) vwCl [(wo_7_rririiiirrrrriiii a_this a_this_machine a_this_plan x_this_day a_this_trusts x_this_rule x_this_green x_this_absent x_this_asksReds a_this_cars a_this_gaps a_this_known a_this_left a_this_leaves J161_c0_13 x_this_crossed x_this_went x_this_harmed), (wo_4_iiiiiiirrrirrrrrir a_this_plan x_this_plan_cycle x_this_plan_green x_this_plan_rule x_this_plan_least x_this_plan_away x_this_plan_statements x_this_plan_kinds a_this_plan_calm a_this_plan_pace a_this_plan_trusts x_this_plan_walkers a_this_plan_kindOf a_this_plan_comesAt a_this_plan_comers a_this_plan_names a_this_plan_code x_this_plan_size a_this_plan_spans), (wi_0_12_0 a_this_plan_kindOf cy g_this_plan_kindOf), (wi_0_6_0 a_this_trusts cy g_this_trusts), (wi_0_200_0 a_this_plan_comers cy g_this_plan_comers), (wi_0_300_0 a_this_left cy J20_a5)] H → va_D A [(wo_7_rririiiirrrrriiii a_this a_this_machine a_this_plan x_this_day a_this_trusts x_this_rule x_this_green x_this_absent x_this_asksReds a_this_cars a_this_gaps a_this_known a_this_left a_this_leaves J161_c0_13 x_this_crossed x_this_went x_this_harmed), (wo_4_iiiiiiirrrirrrrrir a_this_plan x_this_plan_cycle x_this_plan_green x_this_plan_rule x_this_plan_least x_this_plan_away x_this_plan_statements x_this_plan_kinds a_this_plan_calm a_this_plan_pace a_this_plan_trusts x_this_plan_walkers a_this_plan_kindOf a_this_plan_comesAt a_this_plan_comers a_this_plan_names a_this_plan_code x_this_plan_size a_this_plan_spans), (wi_0_12_0 a_this_plan_kindOf cy g_this_plan_kindOf), (wi_0_6_0 a_this_trusts cy g_this_trusts), (wi_0_200_0 a_this_plan_comers cy g_this_plan_comers), (wi_0_300_0 a_this_left cy J20_a5)] → va_S A s.heap H locs → lv_has ls 9 [(0, .ref a_this), (1, .int J20_l1), (2, .int J161_l2), (3, .int J161_l3), (4, .int J20_l4), (5, .int J20_l5), (6, .int J161_l6), (7, .int J161_l7), (8, .int J161_l8)] → W p l e { frames := 1, cells := 0, slots := 0, locals := 22 } s m args below meth c H locs 0 0 Q (F0 m 161 ls []) := by
          intro J161_l2 J161_l3 J161_l6 J161_l7 J161_l8 J161_c0_13 H locs ls hJ161_l2 hJ161_l3 hK161_J20_l4 hK161_J20_l5 hJ161_l8 hK161_x_this_rule hq hP hD hS hl
          unfold F_X7_shine_161 at hq
          refine lv_iconst (v := 0) hx hb dX7_shine_161 rfl ?_
          exact jn162 J161_l2 J161_l3 J161_l6 J161_l7 J161_l8 J161_c0_13 0 H locs ls (ib_w 0 1 hJ161_l2 rfl) (ib_w 0 1 hJ161_l3 rfl) (ib_w (-1) 300 hK161_J20_l4 rfl) (ib_w 0 299 hK161_J20_l5 rfl) (ib_w 0 119 hJ161_l8 rfl) (ib_w 1 1 hK161_x_this_rule rfl) (ib_w 0 1 (ib_c 0 0 0 rfl) rfl) (by try simp only [show (0 : Int32).toInt = (0 : Int) from rfl]; exact hq) hP hD hS (lv_sub hl [0, 1, 2, 3, 4, 5, 6, 7, 8] rfl)
        have jn148 : ∀ (J148_l2 : Int32) (J148_l6 : Int32) (J148_l7 : Int32) (J148_l8 : Int32) (J148_c0_13 : Int32) (J148_s0 : Int32) (H : Heap) (locs : List Loc) (ls : Array Slot), ib J148_l2 0 1 → ib J20_l3 0 1 → ib J20_l4 (-1) 300 → ib J20_l5 0 299 → ib J148_l8 0 119 → ib x_this_rule 1 1 → ib J148_s0 0 1 → (O = F_X7_shine_148 (Int32.toInt x_this_green) (Int32.toInt J20_l1) (Int32.toInt J20_l4) (Int32.toInt J20_l5) (lf_A J20_a5) K20 (Int32.toInt J148_l2) (Int32.toInt J148_l6) (Int32.toInt J148_l7) (Int32.toInt J148_l8) (Int32.toInt J148_c0_13) (Int32.toInt J148_s0)) → va_P (dC, dI) vwCl [(wo_7_rririiiirrrrriiii a_this a_this_machine a_this_plan x_this_day a_this_trusts x_this_rule x_this_green x_this_absent x_this_asksReds a_this_cars a_this_gaps a_this_known a_this_left a_this_leaves J148_c0_13 x_this_crossed x_this_went x_this_harmed), (wo_4_iiiiiiirrrirrrrrir a_this_plan x_this_plan_cycle x_this_plan_green x_this_plan_rule x_this_plan_least x_this_plan_away x_this_plan_statements x_this_plan_kinds a_this_plan_calm a_this_plan_pace a_this_plan_trusts x_this_plan_walkers a_this_plan_kindOf a_this_plan_comesAt a_this_plan_comers a_this_plan_names a_this_plan_code x_this_plan_size a_this_plan_spans), (wi_0_12_0 a_this_plan_kindOf cy g_this_plan_kindOf), (wi_0_6_0 a_this_trusts cy g_this_trusts), (wi_0_200_0 a_this_plan_comers cy g_this_plan_comers), (wi_0_300_0 a_this_left cy J20_a5)] H → va_D A [(wo_7_rririiiirrrrriiii a_this a_this_machine a_this_plan x_this_day a_this_trusts x_this_rule x_this_green x_this_absent x_this_asksReds a_this_cars a_this_gaps a_this_known a_this_left a_this_leaves J148_c0_13 x_this_crossed x_this_went x_this_harmed), (wo_4_iiiiiiirrrirrrrrir a_this_plan x_this_plan_cycle x_this_plan_green x_this_plan_rule x_this_plan_least x_this_plan_away x_this_plan_statements x_this_plan_kinds a_this_plan_calm a_this_plan_pace a_this_plan_trusts x_this_plan_walkers a_this_plan_kindOf a_this_plan_comesAt a_this_plan_comers a_this_plan_names a_this_plan_code x_this_plan_size a_this_plan_spans), (wi_0_12_0 a_this_plan_kindOf cy g_this_plan_kindOf), (wi_0_6_0 a_this_trusts cy g_this_trusts), (wi_0_200_0 a_this_plan_comers cy g_this_plan_comers), (wi_0_300_0 a_this_left cy J20_a5)] → va_S A s.heap H locs → lv_has ls 9 [(0, .ref a_this), (1, .int J20_l1), (2, .int J148_l2), (3, .int J20_l3), (4, .int J20_l4), (5, .int J20_l5), (6, .int J148_l6), (7, .int J148_l7), (8, .int J148_l8)] → W p l e { frames := 1, cells := 0, slots := 0, locals := 22 } s m args below meth c H locs 0 0 Q (F0 m 148 ls [.int J148_s0]) := by
          as_aux_lemma =>
            intro J148_l2 J148_l6 J148_l7 J148_l8 J148_c0_13 J148_s0 H locs ls hJ148_l2 hK148_J20_l3 hK148_J20_l4 hK148_J20_l5 hJ148_l8 hK148_x_this_rule hJ148_s0 hq hP hD hS hl
            unfold F_X7_shine_148 at hq
            refine lv_istore_n (lv' := [(3, .int J148_s0), (0, .ref a_this), (1, .int J20_l1), (2, .int J148_l2), (4, .int J20_l4), (5, .int J20_l5), (6, .int J148_l6), (7, .int J148_l7), (8, .int J148_l8)]) hx hb dX7_shine_148 rfl hl (Nat.le_of_ble_eq_true rfl) rfl (fun ls hl => ?_)
            refine lv_iload_n hx hb dX7_shine_149 rfl (lv_at hl 3 rfl) ?_
            refine lv_if_eq (tgt := 161) hx hb dX7_shine_150 rfl (fun c26 => ?_) (fun c26 => ?_)
            · replace hq := lf_pos hq (lf_eq (lf_rf J148_l2) (lf_lc 0 (0 : Int) rfl) c26)
              have h27 := ib_eq hJ148_l2 (ib_c 0 0 0 rfl) c26
              have h28 : ib J148_l2 0 0 := ib_w 0 0 h27.1 rfl
              exact jn161 J148_l2 J148_s0 J148_l6 J148_l7 J148_l8 J148_c0_13 H locs ls (ib_w 0 1 h28 rfl) (ib_w 0 1 hJ148_s0 rfl) (ib_w (-1) 300 hK148_J20_l4 rfl) (ib_w 0 299 hK148_J20_l5 rfl) (ib_w 0 119 hJ148_l8 rfl) (ib_w 1 1 hK148_x_this_rule rfl) (by exact hq) hP hD hS (lv_sub hl [1, 2, 3, 0, 4, 5, 6, 7, 8] rfl)
            · replace hq := lf_neg hq (lf_ne (lf_rf J148_l2) (lf_lc 0 (0 : Int) rfl) c26)
              have h29 : ib J148_l2 1 1 := ib_w 1 1 (ib_ne_lo 0 hJ148_l2 rfl c26) rfl
              refine lv_iload_n hx hb dX7_shine_153 rfl (lv_at hl 0 rfl) ?_
              refine lv_if_ne (tgt := 161) hx hb dX7_shine_154 rfl (fun c30 => ?_) (fun c30 => ?_)
              · replace hq := lf_neg hq (lf_ne (lf_rf J148_s0) (lf_lc 0 (0 : Int) rfl) c30)
                have h31 : ib J148_s0 1 1 := ib_w 1 1 (ib_ne_lo 0 hJ148_s0 rfl c30) rfl
                exact jn161 J148_l2 J148_s0 J148_l6 J148_l7 J148_l8 J148_c0_13 H locs ls (ib_w 0 1 h29 rfl) (ib_w 0 1 h31 rfl) (ib_w (-1) 300 hK148_J20_l4 rfl) (ib_w 0 299 hK148_J20_l5 rfl) (ib_w 0 119 hJ148_l8 rfl) (ib_w 1 1 hK148_x_this_rule rfl) (by exact hq) hP hD hS (lv_sub hl [1, 2, 3, 0, 4, 5, 6, 7, 8] rfl)
              · replace hq := lf_pos hq (lf_eq (lf_rf J148_s0) (lf_lc 0 (0 : Int) rfl) c30)
                have h32 := ib_eq hJ148_s0 (ib_c 0 0 0 rfl) c30
                have h33 : ib J148_s0 0 0 := ib_w 0 0 h32.1 rfl
                refine lv_iconst (v := 1) hx hb dX7_shine_157 rfl ?_
                refine lv_goto (tgt := 162) hx hb dX7_shine_158 rfl ?_
                exact jn162 J148_l2 J148_s0 J148_l6 J148_l7 J148_l8 J148_c0_13 1 H locs ls (ib_w 0 1 h29 rfl) (ib_w 0 1 h33 rfl) (ib_w (-1) 300 hK148_J20_l4 rfl) (ib_w 0 299 hK148_J20_l5 rfl) (ib_w 0 119 hJ148_l8 rfl) (ib_w 1 1 hK148_x_this_rule rfl) (ib_w 0 1 (ib_c 1 1 1 rfl) rfl) (by try simp only [show (1 : Int32).toInt = (1 : Int) from rfl]; exact hq) hP hD hS (lv_sub hl [1, 2, 3, 0, 4, 5, 6, 7, 8] rfl)
        have jn147 : ∀ (J147_l2 : Int32) (J147_l6 : Int32) (J147_l7 : Int32) (J147_l8 : Int32) (J147_c0_13 : Int32) (H : Heap) (locs : List Loc) (ls : Array Slot), ib J147_l2 0 1 → ib J20_l3 0 1 → ib J20_l4 (-1) 300 → ib J20_l5 0 299 → ib J147_l8 0 119 → ib x_this_rule 1 1 → (O = F_X7_shine_147 (Int32.toInt x_this_green) (Int32.toInt J20_l1) (Int32.toInt J20_l4) (Int32.toInt J20_l5) (lf_A J20_a5) K20 (Int32.toInt J147_l2) (Int32.toInt J147_l6) (Int32.toInt J147_l7) (Int32.toInt J147_l8) (Int32.toInt J147_c0_13)) → va_P (dC, dI) vwCl [(wo_7_rririiiirrrrriiii a_this a_this_machine a_this_plan x_this_day a_this_trusts x_this_rule x_this_green x_this_absent x_this_asksReds a_this_cars a_this_gaps a_this_known a_this_left a_this_leaves J147_c0_13 x_this_crossed x_this_went x_this_harmed), (wo_4_iiiiiiirrrirrrrrir a_this_plan x_this_plan_cycle x_this_plan_green x_this_plan_rule x_this_plan_least x_this_plan_away x_this_plan_statements x_this_plan_kinds a_this_plan_calm a_this_plan_pace a_this_plan_trusts x_this_plan_walkers a_this_plan_kindOf a_this_plan_comesAt a_this_plan_comers a_this_plan_names a_this_plan_code x_this_plan_size a_this_plan_spans), (wi_0_12_0 a_this_plan_kindOf cy g_this_plan_kindOf), (wi_0_6_0 a_this_trusts cy g_this_trusts), (wi_0_200_0 a_this_plan_comers cy g_this_plan_comers), (wi_0_300_0 a_this_left cy J20_a5)] H → va_D A [(wo_7_rririiiirrrrriiii a_this a_this_machine a_this_plan x_this_day a_this_trusts x_this_rule x_this_green x_this_absent x_this_asksReds a_this_cars a_this_gaps a_this_known a_this_left a_this_leaves J147_c0_13 x_this_crossed x_this_went x_this_harmed), (wo_4_iiiiiiirrrirrrrrir a_this_plan x_this_plan_cycle x_this_plan_green x_this_plan_rule x_this_plan_least x_this_plan_away x_this_plan_statements x_this_plan_kinds a_this_plan_calm a_this_plan_pace a_this_plan_trusts x_this_plan_walkers a_this_plan_kindOf a_this_plan_comesAt a_this_plan_comers a_this_plan_names a_this_plan_code x_this_plan_size a_this_plan_spans), (wi_0_12_0 a_this_plan_kindOf cy g_this_plan_kindOf), (wi_0_6_0 a_this_trusts cy g_this_trusts), (wi_0_200_0 a_this_plan_comers cy g_this_plan_comers), (wi_0_300_0 a_this_left cy J20_a5)] → va_S A s.heap H locs → lv_has ls 9 [(0, .ref a_this), (1, .int J20_l1), (2, .int J147_l2), (3, .int J20_l3), (4, .int J20_l4), (5, .int J20_l5), (6, .int J147_l6), (7, .int J147_l7), (8, .int J147_l8)] → W p l e { frames := 1, cells := 0, slots := 0, locals := 22 } s m args below meth c H locs 0 0 Q (F0 m 147 ls []) := by
          intro J147_l2 J147_l6 J147_l7 J147_l8 J147_c0_13 H locs ls hJ147_l2 hK147_J20_l3 hK147_J20_l4 hK147_J20_l5 hJ147_l8 hK147_x_this_rule hq hP hD hS hl
          unfold F_X7_shine_147 at hq
          refine lv_iconst (v := 0) hx hb dX7_shine_147 rfl ?_
          exact jn148 J147_l2 J147_l6 J147_l7 J147_l8 J147_c0_13 0 H locs ls (ib_w 0 1 hJ147_l2 rfl) (ib_w 0 1 hK147_J20_l3 rfl) (ib_w (-1) 300 hK147_J20_l4 rfl) (ib_w 0 299 hK147_J20_l5 rfl) (ib_w 0 119 hJ147_l8 rfl) (ib_w 1 1 hK147_x_this_rule rfl) (ib_w 0 1 (ib_c 0 0 0 rfl) rfl) (by try simp only [show (0 : Int32).toInt = (0 : Int) from rfl]; exact hq) hP hD hS (lv_sub hl [0, 1, 2, 3, 4, 5, 6, 7, 8] rfl)
        have jn95 : ∀ (J95_l6 : Int32) (J95_l7 : Int32) (J95_c0_13 : Int32) (J95_s0 : Int32) (H : Heap) (locs : List Loc) (ls : Array Slot), ib J20_l2 0 1 → ib J20_l3 0 1 → ib J20_l4 (-1) 300 → ib J20_l5 0 299 → ib J95_s0 0 1 → (O = F_X7_shine_95 (Int32.toInt x_this_plan_cycle) (Int32.toInt x_this_plan_least) (Int32.toInt x_this_rule) (Int32.toInt x_this_green) (Int32.toInt J20_l1) (Int32.toInt J20_l3) (Int32.toInt J20_l4) (Int32.toInt J20_l5) (lf_A J20_a5) K20 (Int32.toInt J95_l6) (Int32.toInt J95_l7) (Int32.toInt J95_c0_13) (Int32.toInt J95_s0)) → va_P (dC, dI) vwCl [(wo_7_rririiiirrrrriiii a_this a_this_machine a_this_plan x_this_day a_this_trusts x_this_rule x_this_green x_this_absent x_this_asksReds a_this_cars a_this_gaps a_this_known a_this_left a_this_leaves J95_c0_13 x_this_crossed x_this_went x_this_harmed), (wo_4_iiiiiiirrrirrrrrir a_this_plan x_this_plan_cycle x_this_plan_green x_this_plan_rule x_this_plan_least x_this_plan_away x_this_plan_statements x_this_plan_kinds a_this_plan_calm a_this_plan_pace a_this_plan_trusts x_this_plan_walkers a_this_plan_kindOf a_this_plan_comesAt a_this_plan_comers a_this_plan_names a_this_plan_code x_this_plan_size a_this_plan_spans), (wi_0_12_0 a_this_plan_kindOf cy g_this_plan_kindOf), (wi_0_6_0 a_this_trusts cy g_this_trusts), (wi_0_200_0 a_this_plan_comers cy g_this_plan_comers), (wi_0_300_0 a_this_left cy J20_a5)] H → va_D A [(wo_7_rririiiirrrrriiii a_this a_this_machine a_this_plan x_this_day a_this_trusts x_this_rule x_this_green x_this_absent x_this_asksReds a_this_cars a_this_gaps a_this_known a_this_left a_this_leaves J95_c0_13 x_this_crossed x_this_went x_this_harmed), (wo_4_iiiiiiirrrirrrrrir a_this_plan x_this_plan_cycle x_this_plan_green x_this_plan_rule x_this_plan_least x_this_plan_away x_this_plan_statements x_this_plan_kinds a_this_plan_calm a_this_plan_pace a_this_plan_trusts x_this_plan_walkers a_this_plan_kindOf a_this_plan_comesAt a_this_plan_comers a_this_plan_names a_this_plan_code x_this_plan_size a_this_plan_spans), (wi_0_12_0 a_this_plan_kindOf cy g_this_plan_kindOf), (wi_0_6_0 a_this_trusts cy g_this_trusts), (wi_0_200_0 a_this_plan_comers cy g_this_plan_comers), (wi_0_300_0 a_this_left cy J20_a5)] → va_S A s.heap H locs → lv_has ls 9 [(0, .ref a_this), (1, .int J20_l1), (2, .int J20_l2), (3, .int J20_l3), (4, .int J20_l4), (5, .int J20_l5), (6, .int J95_l6), (7, .int J95_l7)] → W p l e { frames := 1, cells := 0, slots := 0, locals := 22 } s m args below meth c H locs 0 0 Q (F0 m 95 ls [.int J95_s0]) := by
          as_aux_lemma =>
            intro J95_l6 J95_l7 J95_c0_13 J95_s0 H locs ls hK95_J20_l2 hK95_J20_l3 hK95_J20_l4 hK95_J20_l5 hJ95_s0 hq hP hD hS hl
            unfold F_X7_shine_95 at hq
            refine lv_istore_n (lv' := [(2, .int J95_s0), (0, .ref a_this), (1, .int J20_l1), (3, .int J20_l3), (4, .int J20_l4), (5, .int J20_l5), (6, .int J95_l6), (7, .int J95_l7)]) hx hb dX7_shine_95 rfl hl (Nat.le_of_ble_eq_true rfl) rfl (fun ls hl => ?_)
            refine lv_iload hx hb dX7_shine_96 (lv_at hl 5 rfl) ?_
            refine lv_aload_n hx hb dX7_shine_98 rfl (lv_at hl 1 rfl) ?_
            refine k_get C0 fg_X7_63 hP 0 rfl rfl dX7_shine_99 ?_
            refine k_get C0 fg_X7_73 hP 1 rfl rfl dX7_shine_102 ?_
            refine lv_irem hx hb dX7_shine_105 (ib_nz hx_this_plan_cycle rfl) ?_
            refine lv_topi (fun z34 ez34 => ?_)
            have h35 : ib z34 0 119 := by rw [ez34]; exact ib_w 0 119 (ib_rem hK95_J20_l5 hx_this_plan_cycle rfl) rfl
            have Ez34 := lf_op lf_irem ez34 (lf_rf J20_l5) (lf_rf x_this_plan_cycle)
            refine lv_istore (lv' := [(8, .int z34), (2, .int J95_s0), (0, .ref a_this), (1, .int J20_l1), (3, .int J20_l3), (4, .int J20_l4), (5, .int J20_l5), (6, .int J95_l6), (7, .int J95_l7)]) hx hb dX7_shine_106 hl (Nat.le_of_ble_eq_true rfl) rfl (fun ls hl => ?_)
            refine lv_aload_n hx hb dX7_shine_108 rfl (lv_at hl 2 rfl) ?_
            refine k_get C0 fg_X7_19 hP 0 rfl rfl dX7_shine_109 ?_
            refine lv_iconst (v := 1) hx hb dX7_shine_112 rfl ?_
            refine lv_icmp_ne (tgt := 211) hx hb dX7_shine_113 rfl (fun c36 => ?_) (fun c36 => ?_)
            · as_aux_lemma =>
                replace hq := lf_neg hq (lf_ne (lf_rf x_this_rule) (lf_lc 1 (1 : Int) rfl) c36)
                refine lv_iload hx hb dX7_shine_211 (lv_at hl 0 rfl) ?_
                refine lv_if_ne (tgt := 235) hx hb dX7_shine_213 rfl (fun c37 => ?_) (fun c37 => ?_)
                · replace hq := lf_neg hq (lf_ne Ez34 (lf_lc 0 (0 : Int) rfl) c37)
                  have h38 : ib z34 1 119 := ib_w 1 119 (ib_ne_lo 0 h35 rfl c37) rfl
                  exact jn235 J95_s0 J95_l6 J95_l7 z34 J95_c0_13 J20_l3 H locs ls (ib_w 0 1 hJ95_s0 rfl) (ib_w (-1) 300 hK95_J20_l4 rfl) (ib_w 0 299 hK95_J20_l5 rfl) (ib_w 0 119 h38 rfl) (ib_w 0 1 hK95_J20_l3 rfl) (by rw [lf_u Ez34]; exact hq) hP hD hS (lv_sub hl [2, 3, 1, 4, 5, 6, 7, 8, 0] rfl)
                · as_aux_lemma =>
                    replace hq := lf_pos hq (lf_eq Ez34 (lf_lc 0 (0 : Int) rfl) c37)
                    have h39 := ib_eq h35 (ib_c 0 0 0 rfl) c37
                    have h40 : ib z34 0 0 := ib_w 0 0 h39.1 rfl
                    refine lv_aload_n hx hb dX7_shine_216 rfl (lv_at hl 2 rfl) ?_
                    refine k_get C0 fg_X7_19 hP 0 rfl rfl dX7_shine_217 ?_
                    refine lv_if_eq (tgt := 227) hx hb dX7_shine_220 rfl (fun c41 => ?_) (fun c41 => ?_)
                    · replace hq := lf_pos hq (lf_eq (lf_rf x_this_rule) (lf_lc 0 (0 : Int) rfl) c41)
                      have h42 := ib_eq (ib_any x_this_rule) (ib_c 0 0 0 rfl) c41
                      have h43 : ib x_this_rule 0 0 := ib_w 0 0 h42.1 rfl
                      exact jn227 J95_s0 J95_l6 J95_l7 z34 J95_c0_13 H locs ls (ib_w 0 1 hJ95_s0 rfl) (ib_w 0 1 hK95_J20_l3 rfl) (ib_w (-1) 300 hK95_J20_l4 rfl) (ib_w 0 299 hK95_J20_l5 rfl) (ib_w 0 0 h40 rfl) (by rw [lf_u Ez34]; exact hq) hP hD hS (lv_sub hl [2, 3, 1, 4, 5, 6, 7, 8, 0] rfl)
                    · replace hq := lf_neg hq (lf_ne (lf_rf x_this_rule) (lf_lc 0 (0 : Int) rfl) c41)
                      refine lv_iload_n hx hb dX7_shine_223 rfl (lv_at hl 1 rfl) ?_
                      refine lv_if_eq (tgt := 231) hx hb dX7_shine_224 rfl (fun c44 => ?_) (fun c44 => ?_)
                      · replace hq := lf_pos hq (lf_eq (lf_rf J95_s0) (lf_lc 0 (0 : Int) rfl) c44)
                        have h45 := ib_eq hJ95_s0 (ib_c 0 0 0 rfl) c44
                        have h46 : ib J95_s0 0 0 := ib_w 0 0 h45.1 rfl
                        refine lv_iconst (v := 0) hx hb dX7_shine_231 rfl ?_
                        exact jn232 J95_s0 J95_l6 J95_l7 z34 J95_c0_13 0 H locs ls (ib_w 0 1 h46 rfl) (ib_w 0 1 hK95_J20_l3 rfl) (ib_w (-1) 300 hK95_J20_l4 rfl) (ib_w 0 299 hK95_J20_l5 rfl) (ib_w 0 0 h40 rfl) (ib_w 0 1 (ib_c 0 0 0 rfl) rfl) (by rw [lf_u Ez34]; try simp only [show (0 : Int32).toInt = (0 : Int) from rfl]; exact hq) hP hD hS (lv_sub hl [2, 3, 1, 4, 5, 6, 7, 8, 0] rfl)
                      · replace hq := lf_neg hq (lf_ne (lf_rf J95_s0) (lf_lc 0 (0 : Int) rfl) c44)
                        have h47 : ib J95_s0 1 1 := ib_w 1 1 (ib_ne_lo 0 hJ95_s0 rfl c44) rfl
                        exact jn227 J95_s0 J95_l6 J95_l7 z34 J95_c0_13 H locs ls (ib_w 0 1 h47 rfl) (ib_w 0 1 hK95_J20_l3 rfl) (ib_w (-1) 300 hK95_J20_l4 rfl) (ib_w 0 299 hK95_J20_l5 rfl) (ib_w 0 0 h40 rfl) (by rw [lf_u Ez34]; exact hq) hP hD hS (lv_sub hl [2, 3, 1, 4, 5, 6, 7, 8, 0] rfl)
            · as_aux_lemma =>
                replace hq := lf_pos hq (lf_eq (lf_rf x_this_rule) (lf_lc 1 (1 : Int) rfl) c36)
                have h48 := ib_eq (ib_any x_this_rule) (ib_c 1 1 1 rfl) c36
                have h49 : ib x_this_rule 1 1 := ib_w 1 1 h48.1 rfl
                refine lv_iload hx hb dX7_shine_116 (lv_at hl 7 rfl) ?_
                refine lv_iconst (v := 1) hx hb dX7_shine_118 rfl ?_
                refine lv_icmp_gt (tgt := 147) hx hb dX7_shine_119 rfl (fun c50 => ?_) (fun c50 => ?_)
                · replace hq := lf_pos hq (lf_lt (lf_lc 1 (1 : Int) rfl) (lf_rf J95_l6) c50)
                  have h51 := ib_lt (ib_c 1 1 1 rfl) (ib_any J95_l6) c50
                  have h52 : ib J95_l6 2 2147483647 := ib_w 2 2147483647 h51.2 rfl
                  exact jn147 J95_s0 J95_l6 J95_l7 z34 J95_c0_13 H locs ls (ib_w 0 1 hJ95_s0 rfl) (ib_w 0 1 hK95_J20_l3 rfl) (ib_w (-1) 300 hK95_J20_l4 rfl) (ib_w 0 299 hK95_J20_l5 rfl) (ib_w 0 119 h35 rfl) (ib_w 1 1 h49 rfl) (by rw [lf_u Ez34]; exact hq) hP hD hS (lv_sub hl [2, 3, 1, 4, 5, 6, 7, 8, 0] rfl)
                · as_aux_lemma =>
                    replace hq := lf_neg hq (lf_nlt (lf_lc 1 (1 : Int) rfl) (lf_rf J95_l6) c50)
                    have h53 := ib_nlt (ib_c 1 1 1 rfl) (ib_any J95_l6) c50
                    have h54 : ib J95_l6 (-2147483648) 1 := ib_w (-2147483648) 1 h53.2 rfl
                    refine lv_iload_n hx hb dX7_shine_122 rfl (lv_at hl 1 rfl) ?_
                    refine lv_if_eq (tgt := 147) hx hb dX7_shine_123 rfl (fun c55 => ?_) (fun c55 => ?_)
                    · replace hq := lf_pos hq (lf_eq (lf_rf J95_s0) (lf_lc 0 (0 : Int) rfl) c55)
                      have h56 := ib_eq hJ95_s0 (ib_c 0 0 0 rfl) c55
                      have h57 : ib J95_s0 0 0 := ib_w 0 0 h56.1 rfl
                      exact jn147 J95_s0 J95_l6 J95_l7 z34 J95_c0_13 H locs ls (ib_w 0 1 h57 rfl) (ib_w 0 1 hK95_J20_l3 rfl) (ib_w (-1) 300 hK95_J20_l4 rfl) (ib_w 0 299 hK95_J20_l5 rfl) (ib_w 0 119 h35 rfl) (ib_w 1 1 h49 rfl) (by rw [lf_u Ez34]; exact hq) hP hD hS (lv_sub hl [2, 3, 1, 4, 5, 6, 7, 8, 0] rfl)
                    · as_aux_lemma =>
                        replace hq := lf_neg hq (lf_ne (lf_rf J95_s0) (lf_lc 0 (0 : Int) rfl) c55)
                        have h58 : ib J95_s0 1 1 := ib_w 1 1 (ib_ne_lo 0 hJ95_s0 rfl c55) rfl
                        refine lv_iload hx hb dX7_shine_126 (lv_at hl 6 rfl) ?_
                        refine lv_iload hx hb dX7_shine_128 (lv_at hl 5 rfl) ?_
                        refine lv_isub hx hb dX7_shine_130 ?_
                        refine lv_topi (fun z59 ez59 => ?_)
                        have h60 := ib_sub hK95_J20_l5 hK95_J20_l4 rfl
                        rw [← ez59] at h60
                        have h61 : ib z59 (-300) 300 := ib_w (-300) 300 h60.1 rfl
                        have Ez59 := lf_sub h60.2 (lf_rf J20_l5) (lf_rf J20_l4)
                        refine lv_iconst (v := 1) hx hb dX7_shine_131 rfl ?_
                        refine lv_isub hx hb dX7_shine_132 ?_
                        refine lv_topi (fun z62 ez62 => ?_)
                        have h63 := ib_sub h61 (ib_c 1 1 1 rfl) rfl
                        rw [← ez62] at h63
                        have h64 : ib z62 (-301) 299 := ib_w (-301) 299 h63.1 rfl
                        have Ez62 := lf_sub h63.2 Ez59 (lf_lc 1 (1 : Int) rfl)
                        refine lv_aload_n hx hb dX7_shine_133 rfl (lv_at hl 2 rfl) ?_
                        refine k_get C0 fg_X7_63 hP 0 rfl rfl dX7_shine_134 ?_
                        refine k_get C0 fg_X7_131 hP 1 rfl rfl dX7_shine_137 ?_
                        refine lv_icmp_lt (tgt := 147) hx hb dX7_shine_140 rfl (fun c65 => ?_) (fun c65 => ?_)
                        · replace hq := lf_pos hq (lf_lt Ez62 (lf_rf x_this_plan_least) c65)
                          have h66 := ib_lt h64 hx_this_plan_least c65
                          have h67 : ib z62 (-301) 98 := ib_w (-301) 98 h66.1 rfl
                          have h68 : ib z59 (-300) 99 := ⟨by have := h63.2; have : (1 : Int32).toInt = 1 := rfl; have := (h67).1; have := (h67).2; have := (h61).1; have := (h61).2; omega, by have := h63.2; have : (1 : Int32).toInt = 1 := rfl; have := (h67).1; have := (h67).2; have := (h61).1; have := (h61).2; omega⟩
                          exact jn147 J95_s0 J95_l6 J95_l7 z34 J95_c0_13 H locs ls (ib_w 0 1 h58 rfl) (ib_w 0 1 hK95_J20_l3 rfl) (ib_w (-1) 300 hK95_J20_l4 rfl) (ib_w 0 299 hK95_J20_l5 rfl) (ib_w 0 119 h35 rfl) (ib_w 1 1 h49 rfl) (by rw [lf_u Ez34]; exact hq) hP hD hS (lv_sub hl [2, 3, 1, 4, 5, 6, 7, 8, 0] rfl)
                        · replace hq := lf_neg hq (lf_nlt Ez62 (lf_rf x_this_plan_least) c65)
                          have h69 := ib_nlt h64 hx_this_plan_least c65
                          have h70 : ib z62 0 299 := ib_w 0 299 h69.1 rfl
                          have h71 : ib z59 1 300 := ⟨by have := h63.2; have : (1 : Int32).toInt = 1 := rfl; have := (h70).1; have := (h70).2; have := (h61).1; have := (h61).2; omega, by have := h63.2; have : (1 : Int32).toInt = 1 := rfl; have := (h70).1; have := (h70).2; have := (h61).1; have := (h61).2; omega⟩
                          refine lv_iconst (v := 1) hx hb dX7_shine_143 rfl ?_
                          refine lv_goto (tgt := 148) hx hb dX7_shine_144 rfl ?_
                          exact jn148 J95_s0 J95_l6 J95_l7 z34 J95_c0_13 1 H locs ls (ib_w 0 1 h58 rfl) (ib_w 0 1 hK95_J20_l3 rfl) (ib_w (-1) 300 hK95_J20_l4 rfl) (ib_w 0 299 hK95_J20_l5 rfl) (ib_w 0 119 h35 rfl) (ib_w 1 1 h49 rfl) (ib_w 0 1 (ib_c 1 1 1 rfl) rfl) (by rw [lf_u Ez34]; try simp only [show (1 : Int32).toInt = (1 : Int) from rfl]; exact hq) hP hD hS (lv_sub hl [2, 3, 1, 4, 5, 6, 7, 8, 0] rfl)
        have jn90 : ∀ (J90_l6 : Int32) (J90_l7 : Int32) (J90_c0_13 : Int32) (H : Heap) (locs : List Loc) (ls : Array Slot), ib J20_l2 0 1 → ib J20_l3 0 1 → ib J20_l4 (-1) 300 → ib J20_l5 0 299 → (O = F_X7_shine_90 (Int32.toInt x_this_plan_cycle) (Int32.toInt x_this_plan_least) (Int32.toInt x_this_rule) (Int32.toInt x_this_green) (Int32.toInt J20_l1) (Int32.toInt J20_l3) (Int32.toInt J20_l4) (Int32.toInt J20_l5) (lf_A J20_a5) K20 (Int32.toInt J90_l6) (Int32.toInt J90_l7) (Int32.toInt J90_c0_13)) → va_P (dC, dI) vwCl [(wo_7_rririiiirrrrriiii a_this a_this_machine a_this_plan x_this_day a_this_trusts x_this_rule x_this_green x_this_absent x_this_asksReds a_this_cars a_this_gaps a_this_known a_this_left a_this_leaves J90_c0_13 x_this_crossed x_this_went x_this_harmed), (wo_4_iiiiiiirrrirrrrrir a_this_plan x_this_plan_cycle x_this_plan_green x_this_plan_rule x_this_plan_least x_this_plan_away x_this_plan_statements x_this_plan_kinds a_this_plan_calm a_this_plan_pace a_this_plan_trusts x_this_plan_walkers a_this_plan_kindOf a_this_plan_comesAt a_this_plan_comers a_this_plan_names a_this_plan_code x_this_plan_size a_this_plan_spans), (wi_0_12_0 a_this_plan_kindOf cy g_this_plan_kindOf), (wi_0_6_0 a_this_trusts cy g_this_trusts), (wi_0_200_0 a_this_plan_comers cy g_this_plan_comers), (wi_0_300_0 a_this_left cy J20_a5)] H → va_D A [(wo_7_rririiiirrrrriiii a_this a_this_machine a_this_plan x_this_day a_this_trusts x_this_rule x_this_green x_this_absent x_this_asksReds a_this_cars a_this_gaps a_this_known a_this_left a_this_leaves J90_c0_13 x_this_crossed x_this_went x_this_harmed), (wo_4_iiiiiiirrrirrrrrir a_this_plan x_this_plan_cycle x_this_plan_green x_this_plan_rule x_this_plan_least x_this_plan_away x_this_plan_statements x_this_plan_kinds a_this_plan_calm a_this_plan_pace a_this_plan_trusts x_this_plan_walkers a_this_plan_kindOf a_this_plan_comesAt a_this_plan_comers a_this_plan_names a_this_plan_code x_this_plan_size a_this_plan_spans), (wi_0_12_0 a_this_plan_kindOf cy g_this_plan_kindOf), (wi_0_6_0 a_this_trusts cy g_this_trusts), (wi_0_200_0 a_this_plan_comers cy g_this_plan_comers), (wi_0_300_0 a_this_left cy J20_a5)] → va_S A s.heap H locs → lv_has ls 9 [(0, .ref a_this), (1, .int J20_l1), (2, .int J20_l2), (3, .int J20_l3), (4, .int J20_l4), (5, .int J20_l5), (6, .int J90_l6), (7, .int J90_l7)] → W p l e { frames := 1, cells := 0, slots := 0, locals := 22 } s m args below meth c H locs 0 0 Q (F0 m 90 ls []) := by
          intro J90_l6 J90_l7 J90_c0_13 H locs ls hK90_J20_l2 hK90_J20_l3 hK90_J20_l4 hK90_J20_l5 hq hP hD hS hl
          unfold F_X7_shine_90 at hq
          refine lv_iconst (v := 1) hx hb dX7_shine_90 rfl ?_
          refine lv_goto (tgt := 95) hx hb dX7_shine_91 rfl ?_
          exact jn95 J90_l6 J90_l7 J90_c0_13 1 H locs ls (ib_w 0 1 hK90_J20_l2 rfl) (ib_w 0 1 hK90_J20_l3 rfl) (ib_w (-1) 300 hK90_J20_l4 rfl) (ib_w 0 299 hK90_J20_l5 rfl) (ib_w 0 1 (ib_c 1 1 1 rfl) rfl) (by try simp only [show (1 : Int32).toInt = (1 : Int) from rfl]; exact hq) hP hD hS (lv_sub hl [0, 1, 2, 3, 4, 5, 6, 7] rfl)
        have jn68 : ∀ (J68_l6 : Int32) (J68_s0 : Int32) (H : Heap) (locs : List Loc) (ls : Array Slot), ib J20_l2 0 1 → ib J20_l3 0 1 → ib J20_l4 (-1) 300 → ib J20_l5 0 299 → (O = F_X7_shine_68 (Int32.toInt x_this_plan_cycle) (Int32.toInt x_this_plan_least) (Int32.toInt x_this_rule) (Int32.toInt x_this_green) (Int32.toInt J20_l1) (Int32.toInt J20_l2) (Int32.toInt J20_l3) (Int32.toInt J20_l4) (Int32.toInt J20_l5) (Int32.toInt J20_c0_13) (lf_A J20_a5) K20 (Int32.toInt J68_l6) (Int32.toInt J68_s0)) → va_P (dC, dI) vwCl [(wo_7_rririiiirrrrriiii a_this a_this_machine a_this_plan x_this_day a_this_trusts x_this_rule x_this_green x_this_absent x_this_asksReds a_this_cars a_this_gaps a_this_known a_this_left a_this_leaves J20_c0_13 x_this_crossed x_this_went x_this_harmed), (wo_4_iiiiiiirrrirrrrrir a_this_plan x_this_plan_cycle x_this_plan_green x_this_plan_rule x_this_plan_least x_this_plan_away x_this_plan_statements x_this_plan_kinds a_this_plan_calm a_this_plan_pace a_this_plan_trusts x_this_plan_walkers a_this_plan_kindOf a_this_plan_comesAt a_this_plan_comers a_this_plan_names a_this_plan_code x_this_plan_size a_this_plan_spans), (wi_0_12_0 a_this_plan_kindOf cy g_this_plan_kindOf), (wi_0_6_0 a_this_trusts cy g_this_trusts), (wi_0_200_0 a_this_plan_comers cy g_this_plan_comers), (wi_0_300_0 a_this_left cy J20_a5)] H → va_D A [(wo_7_rririiiirrrrriiii a_this a_this_machine a_this_plan x_this_day a_this_trusts x_this_rule x_this_green x_this_absent x_this_asksReds a_this_cars a_this_gaps a_this_known a_this_left a_this_leaves J20_c0_13 x_this_crossed x_this_went x_this_harmed), (wo_4_iiiiiiirrrirrrrrir a_this_plan x_this_plan_cycle x_this_plan_green x_this_plan_rule x_this_plan_least x_this_plan_away x_this_plan_statements x_this_plan_kinds a_this_plan_calm a_this_plan_pace a_this_plan_trusts x_this_plan_walkers a_this_plan_kindOf a_this_plan_comesAt a_this_plan_comers a_this_plan_names a_this_plan_code x_this_plan_size a_this_plan_spans), (wi_0_12_0 a_this_plan_kindOf cy g_this_plan_kindOf), (wi_0_6_0 a_this_trusts cy g_this_trusts), (wi_0_200_0 a_this_plan_comers cy g_this_plan_comers), (wi_0_300_0 a_this_left cy J20_a5)] → va_S A s.heap H locs → lv_has ls 9 [(0, .ref a_this), (1, .int J20_l1), (2, .int J20_l2), (3, .int J20_l3), (4, .int J20_l4), (5, .int J20_l5), (6, .int J68_l6)] → W p l e { frames := 1, cells := 0, slots := 0, locals := 22 } s m args below meth c H locs 0 0 Q (F0 m 68 ls [.int J68_s0]) := by
          as_aux_lemma =>
            intro J68_l6 J68_s0 H locs ls hK68_J20_l2 hK68_J20_l3 hK68_J20_l4 hK68_J20_l5 hq hP hD hS hl
            unfold F_X7_shine_68 at hq
            refine lv_istore (lv' := [(7, .int J68_s0), (0, .ref a_this), (1, .int J20_l1), (2, .int J20_l2), (3, .int J20_l3), (4, .int J20_l4), (5, .int J20_l5), (6, .int J68_l6)]) hx hb dX7_shine_68 hl (Nat.le_of_ble_eq_true rfl) rfl (fun ls hl => ?_)
            refine lv_aload_n hx hb dX7_shine_70 rfl (lv_at hl 1 rfl) ?_
            refine lv_dup hx hb dX7_shine_71 rfl ?_
            refine k_get C0 fg_X7_47 hP 0 rfl rfl dX7_shine_72 ?_
            refine lv_iload hx hb dX7_shine_75 (lv_at hl 0 rfl) ?_
            refine lv_ior hx hb dX7_shine_77 ?_
            refine lv_topi (fun z72 ez72 => ?_)
            have Ez72 := lf_op lf_ior ez72 (lf_rf J20_c0_13) (lf_rf J68_s0)
            refine k_put C0 fp_X7_47 hP hD hS 0 rfl rfl rfl (Nat.le_of_ble_eq_true rfl) dX7_shine_78 (fun H locs hP hD hS => ?_)
            replace hP : va_P (dC, dI) vwCl [(wo_7_rririiiirrrrriiii a_this a_this_machine a_this_plan x_this_day a_this_trusts x_this_rule x_this_green x_this_absent x_this_asksReds a_this_cars a_this_gaps a_this_known a_this_left a_this_leaves z72 x_this_crossed x_this_went x_this_harmed), (wo_4_iiiiiiirrrirrrrrir a_this_plan x_this_plan_cycle x_this_plan_green x_this_plan_rule x_this_plan_least x_this_plan_away x_this_plan_statements x_this_plan_kinds a_this_plan_calm a_this_plan_pace a_this_plan_trusts x_this_plan_walkers a_this_plan_kindOf a_this_plan_comesAt a_this_plan_comers a_this_plan_names a_this_plan_code x_this_plan_size a_this_plan_spans), (wi_0_12_0 a_this_plan_kindOf cy g_this_plan_kindOf), (wi_0_6_0 a_this_trusts cy g_this_trusts), (wi_0_200_0 a_this_plan_comers cy g_this_plan_comers), (wi_0_300_0 a_this_left cy J20_a5)] H := hP
            replace hD := k_D hP hD
            refine lv_iload_n hx hb dX7_shine_81 rfl (lv_at hl 3 rfl) ?_
            refine lv_if_ne (tgt := 90) hx hb dX7_shine_82 rfl (fun c73 => ?_) (fun c73 => ?_)
            · replace hq := lf_neg hq (lf_ne (lf_rf J20_l2) (lf_lc 0 (0 : Int) rfl) c73)
              have h74 : ib J20_l2 1 1 := ib_w 1 1 (ib_ne_lo 0 hK68_J20_l2 rfl c73) rfl
              exact jn90 J68_l6 J68_s0 z72 H locs ls (ib_w 0 1 h74 rfl) (ib_w 0 1 hK68_J20_l3 rfl) (ib_w (-1) 300 hK68_J20_l4 rfl) (ib_w 0 299 hK68_J20_l5 rfl) (by rw [lf_u Ez72]; exact hq) hP hD hS (lv_sub hl [1, 2, 3, 4, 5, 6, 7, 0] rfl)
            · replace hq := lf_pos hq (lf_eq (lf_rf J20_l2) (lf_lc 0 (0 : Int) rfl) c73)
              have h75 := ib_eq hK68_J20_l2 (ib_c 0 0 0 rfl) c73
              have h76 : ib J20_l2 0 0 := ib_w 0 0 h75.1 rfl
              refine lv_iload hx hb dX7_shine_85 (lv_at hl 0 rfl) ?_
              refine lv_if_eq (tgt := 94) hx hb dX7_shine_87 rfl (fun c77 => ?_) (fun c77 => ?_)
              · replace hq := lf_pos hq (lf_eq (lf_rf J68_s0) (lf_lc 0 (0 : Int) rfl) c77)
                have h78 := ib_eq (ib_any J68_s0) (ib_c 0 0 0 rfl) c77
                have h79 : ib J68_s0 0 0 := ib_w 0 0 h78.1 rfl
                refine lv_iconst (v := 0) hx hb dX7_shine_94 rfl ?_
                exact jn95 J68_l6 J68_s0 z72 0 H locs ls (ib_w 0 1 h76 rfl) (ib_w 0 1 hK68_J20_l3 rfl) (ib_w (-1) 300 hK68_J20_l4 rfl) (ib_w 0 299 hK68_J20_l5 rfl) (ib_w 0 1 (ib_c 0 0 0 rfl) rfl) (by rw [lf_u Ez72]; try simp only [show (0 : Int32).toInt = (0 : Int) from rfl]; exact hq) hP hD hS (lv_sub hl [1, 2, 3, 4, 5, 6, 7, 0] rfl)
              · replace hq := lf_neg hq (lf_ne (lf_rf J68_s0) (lf_lc 0 (0 : Int) rfl) c77)
                exact jn90 J68_l6 J68_s0 z72 H locs ls (ib_w 0 1 h76 rfl) (ib_w 0 1 hK68_J20_l3 rfl) (ib_w (-1) 300 hK68_J20_l4 rfl) (ib_w 0 299 hK68_J20_l5 rfl) (by rw [lf_u Ez72]; exact hq) hP hD hS (lv_sub hl [1, 2, 3, 4, 5, 6, 7, 0] rfl)
        have jn46 : ∀ (J46_s0 : Int32) (H : Heap) (locs : List Loc) (ls : Array Slot), ib J20_l2 0 1 → ib J20_l3 0 1 → ib J20_l4 (-1) 300 → ib J20_l5 0 299 → (O = F_X7_shine_46 (Int32.toInt x_this_plan_cycle) (Int32.toInt x_this_plan_least) (lf_A g_this_plan_comers) (Int32.toInt x_this_rule) (Int32.toInt x_this_green) (Int32.toInt J20_l1) (Int32.toInt J20_l2) (Int32.toInt J20_l3) (Int32.toInt J20_l4) (Int32.toInt J20_l5) (Int32.toInt J20_c0_13) (lf_A J20_a5) K20 (Int32.toInt J46_s0)) → va_P (dC, dI) vwCl [(wo_7_rririiiirrrrriiii a_this a_this_machine a_this_plan x_this_day a_this_trusts x_this_rule x_this_green x_this_absent x_this_asksReds a_this_cars a_this_gaps a_this_known a_this_left a_this_leaves J20_c0_13 x_this_crossed x_this_went x_this_harmed), (wo_4_iiiiiiirrrirrrrrir a_this_plan x_this_plan_cycle x_this_plan_green x_this_plan_rule x_this_plan_least x_this_plan_away x_this_plan_statements x_this_plan_kinds a_this_plan_calm a_this_plan_pace a_this_plan_trusts x_this_plan_walkers a_this_plan_kindOf a_this_plan_comesAt a_this_plan_comers a_this_plan_names a_this_plan_code x_this_plan_size a_this_plan_spans), (wi_0_12_0 a_this_plan_kindOf cy g_this_plan_kindOf), (wi_0_6_0 a_this_trusts cy g_this_trusts), (wi_0_200_0 a_this_plan_comers cy g_this_plan_comers), (wi_0_300_0 a_this_left cy J20_a5)] H → va_D A [(wo_7_rririiiirrrrriiii a_this a_this_machine a_this_plan x_this_day a_this_trusts x_this_rule x_this_green x_this_absent x_this_asksReds a_this_cars a_this_gaps a_this_known a_this_left a_this_leaves J20_c0_13 x_this_crossed x_this_went x_this_harmed), (wo_4_iiiiiiirrrirrrrrir a_this_plan x_this_plan_cycle x_this_plan_green x_this_plan_rule x_this_plan_least x_this_plan_away x_this_plan_statements x_this_plan_kinds a_this_plan_calm a_this_plan_pace a_this_plan_trusts x_this_plan_walkers a_this_plan_kindOf a_this_plan_comesAt a_this_plan_comers a_this_plan_names a_this_plan_code x_this_plan_size a_this_plan_spans), (wi_0_12_0 a_this_plan_kindOf cy g_this_plan_kindOf), (wi_0_6_0 a_this_trusts cy g_this_trusts), (wi_0_200_0 a_this_plan_comers cy g_this_plan_comers), (wi_0_300_0 a_this_left cy J20_a5)] → va_S A s.heap H locs → lv_has ls 9 [(0, .ref a_this), (1, .int J20_l1), (2, .int J20_l2), (3, .int J20_l3), (4, .int J20_l4), (5, .int J20_l5)] → W p l e { frames := 1, cells := 0, slots := 0, locals := 22 } s m args below meth c H locs 0 0 Q (F0 m 46 ls [.int J46_s0]) := by
          as_aux_lemma =>
            intro J46_s0 H locs ls hK46_J20_l2 hK46_J20_l3 hK46_J20_l4 hK46_J20_l5 hq hP hD hS hl
            unfold F_X7_shine_46 at hq
            refine lv_istore (lv' := [(6, .int J46_s0), (0, .ref a_this), (1, .int J20_l1), (2, .int J20_l2), (3, .int J20_l3), (4, .int J20_l4), (5, .int J20_l5)]) hx hb dX7_shine_46 hl (Nat.le_of_ble_eq_true rfl) rfl (fun ls hl => ?_)
            refine lv_iload hx hb dX7_shine_48 (lv_at hl 0 rfl) ?_
            refine lv_if_ne (tgt := 67) hx hb dX7_shine_50 rfl (fun c80 => ?_) (fun c80 => ?_)
            · replace hq := lf_neg hq (lf_ne (lf_rf J46_s0) (lf_lc 0 (0 : Int) rfl) c80)
              refine lv_iconst (v := 0) hx hb dX7_shine_67 rfl ?_
              exact jn68 J46_s0 0 H locs ls (ib_w 0 1 hK46_J20_l2 rfl) (ib_w 0 1 hK46_J20_l3 rfl) (ib_w (-1) 300 hK46_J20_l4 rfl) (ib_w 0 299 hK46_J20_l5 rfl) (by try simp only [show (0 : Int32).toInt = (0 : Int) from rfl]; exact hq) hP hD hS (lv_sub hl [1, 2, 3, 4, 5, 6, 0] rfl)
            · replace hq := lf_pos hq (lf_eq (lf_rf J46_s0) (lf_lc 0 (0 : Int) rfl) c80)
              have h81 := ib_eq (ib_any J46_s0) (ib_c 0 0 0 rfl) c80
              have h82 : ib J46_s0 0 0 := ib_w 0 0 h81.1 rfl
              refine lv_aload_n hx hb dX7_shine_53 rfl (lv_at hl 1 rfl) ?_
              refine k_get C0 fg_X7_63 hP 0 rfl rfl dX7_shine_54 ?_
              refine lv_iload hx hb dX7_shine_57 (lv_at hl 6 rfl) ?_
              refine k_jim hP hD hS hA [1, 4] [true, false, true, true, false, true] rfl rfl rfl 0 0 (Nat.le_of_ble_eq_true rfl) (Nat.le_of_ble_eq_true rfl) (fun hPc hDc => k_runV (As := [.int J20_l5]) (rest := []) C0 hZ hS hA (s_X4_comersIn l dC dI cy sq a_this_plan x_this_plan_cycle x_this_plan_green x_this_plan_rule x_this_plan_least x_this_plan_away x_this_plan_statements x_this_plan_kinds a_this_plan_calm a_this_plan_pace a_this_plan_trusts x_this_plan_walkers a_this_plan_kindOf a_this_plan_comesAt a_this_plan_comers g_this_plan_comers a_this_plan_names a_this_plan_code x_this_plan_size a_this_plan_spans J20_l5 ) mV_X7_127 hPc hDc rfl rfl rfl hl rfl rfl (Nat.le_of_ble_eq_true rfl) ⟨(Nat.le_of_ble_eq_true rfl), (Nat.le_of_ble_eq_true rfl)⟩ ⟨(Nat.le_of_ble_eq_true rfl), (Nat.le_of_ble_eq_true rfl)⟩ dX7_shine_59) (fun r83 u84 H locs hw hP hD hS => ?_)
              try dsimp only at hP hD hw
              replace hP : va_P (dC, dI) vwCl [(wo_7_rririiiirrrrriiii a_this a_this_machine a_this_plan x_this_day a_this_trusts x_this_rule x_this_green x_this_absent x_this_asksReds a_this_cars a_this_gaps a_this_known a_this_left a_this_leaves J20_c0_13 x_this_crossed x_this_went x_this_harmed), (wi_0_12_0 a_this_plan_kindOf cy g_this_plan_kindOf), (wi_0_6_0 a_this_trusts cy g_this_trusts), (wi_0_300_0 a_this_left cy J20_a5), (wo_4_iiiiiiirrrirrrrrir a_this_plan x_this_plan_cycle x_this_plan_green x_this_plan_rule x_this_plan_least x_this_plan_away x_this_plan_statements x_this_plan_kinds a_this_plan_calm a_this_plan_pace a_this_plan_trusts x_this_plan_walkers a_this_plan_kindOf a_this_plan_comesAt a_this_plan_comers a_this_plan_names a_this_plan_code x_this_plan_size a_this_plan_spans), (wi_0_200_0 a_this_plan_comers cy g_this_plan_comers)] H := hP
              replace hD := k_D hP hD
              have h85 := hw
              replace hq := lf_b1 hq h85
              refine lv_iload_n hx hb dX7_shine_62 rfl (lv_at hl 2 rfl) ?_
              refine lv_iand hx hb dX7_shine_63 ?_
              refine lv_topi (fun z86 ez86 => ?_)
              have Ez86 := lf_op lf_iand ez86 (lf_rf r83) (lf_rf J20_l1)
              refine lv_goto (tgt := 68) hx hb dX7_shine_64 rfl ?_
              exact jn68 J46_s0 z86 H locs ls (ib_w 0 1 hK46_J20_l2 rfl) (ib_w 0 1 hK46_J20_l3 rfl) (ib_w (-1) 300 hK46_J20_l4 rfl) (ib_w 0 299 hK46_J20_l5 rfl) (by rw [lf_u Ez86]; exact hq) (hP.sub [0, 4, 1, 2, 5, 3] rfl) (hD.sub [0, 4, 1, 2, 5, 3] rfl rfl) hS (lv_sub hl [1, 2, 3, 4, 5, 6, 0] rfl)
        refine lv_iload hx hb dX7_shine_20 (lv_at hl 5 rfl) ?_
        refine lv_sipush (v := 300) hx hb dX7_shine_22 rfl ?_
        refine lv_icmp_ge (tgt := 267) hx hb dX7_shine_25 rfl (fun c87 => ?_) (fun c87 => ?_)
        · replace hq := lf_pos hq (lf_le (lf_lc 300 (300 : Int) rfl) (lf_rf J20_l5) c87)
          have h88 := ib_le (ib_c 300 300 300 rfl) hJ20_l5 c87
          have h89 : ib J20_l5 300 300 := ib_w 300 300 h88.2 rfl
          subst hQ; exact k_vret hx hb hr hlk ((J20_c0_13, J20_a5)) hS ((hO.symm.trans (by exact hq))) hP hD (Nat.le_of_ble_eq_true rfl) (Nat.le_of_ble_eq_true rfl) dX7_shine_267
        · as_aux_lemma =>
            replace hq := lf_neg hq (lf_nle (lf_lc 300 (300 : Int) rfl) (lf_rf J20_l5) c87)
            have h90 := ib_nle (ib_c 300 300 300 rfl) hJ20_l5 c87
            have h91 : ib J20_l5 0 299 := ib_w 0 299 h90.2 rfl
            refine lv_iload hx hb dX7_shine_28 (lv_at hl 5 rfl) ?_
            refine lv_if_le (tgt := 45) hx hb dX7_shine_30 rfl (fun c92 => ?_) (fun c92 => ?_)
            · replace hq := lf_pos hq (lf_le (lf_rf J20_l5) (lf_lc 0 (0 : Int) rfl) c92)
              have h93 := ib_le h91 (ib_c 0 0 0 rfl) c92
              have h94 : ib J20_l5 0 0 := ib_w 0 0 h93.1 rfl
              refine lv_iconst (v := 0) hx hb dX7_shine_45 rfl ?_
              exact jn46 0 H locs ls (ib_w 0 1 hJ20_l2 rfl) (ib_w 0 1 hJ20_l3 rfl) (ib_w (-1) 300 hJ20_l4 rfl) (ib_w 0 299 h94 rfl) (by try simp only [show (0 : Int32).toInt = (0 : Int) from rfl]; exact hq) hP hD hS (lv_sub hl [0, 1, 2, 3, 4, 5] rfl)
            · replace hq := lf_neg hq (lf_nle (lf_rf J20_l5) (lf_lc 0 (0 : Int) rfl) c92)
              have h95 := ib_nle h91 (ib_c 0 0 0 rfl) c92
              have h96 : ib J20_l5 1 299 := ib_w 1 299 h95.1 rfl
              refine lv_aload_n hx hb dX7_shine_33 rfl (lv_at hl 0 rfl) ?_
              refine k_get C0 fg_X7_41 hP 0 rfl rfl dX7_shine_34 ?_
              refine lv_iload hx hb dX7_shine_37 (lv_at hl 5 rfl) ?_
              refine lv_iconst (v := 1) hx hb dX7_shine_39 rfl ?_
              refine lv_isub hx hb dX7_shine_40 ?_
              refine lv_topi (fun z97 ez97 => ?_)
              have h98 := ib_sub h96 (ib_c 1 1 1 rfl) rfl
              rw [← ez97] at h98
              have h99 : ib z97 0 298 := ib_w 0 298 h98.1 rfl
              have Ez97 := lf_sub h98.2 (lf_rf J20_l5) (lf_lc 1 (1 : Int) rfl)
              refine va_iald hx hb C0.2.2.2.2.2.1 hP 5 0 rfl rfl (ib_in 300 h99 rfl) dX7_shine_41 ?_
              refine lv_topi (fun z100 ez100 => ?_)
              have Ez100 := lf_ld ez100 (lf_ra J20_a5) Ez97
              refine lv_goto (tgt := 46) hx hb dX7_shine_42 rfl ?_
              exact jn46 z100 H locs ls (ib_w 0 1 hJ20_l2 rfl) (ib_w 0 1 hJ20_l3 rfl) (ib_w (-1) 300 hJ20_l4 rfl) (ib_w 0 299 h96 rfl) (by rw [lf_u Ez100]; exact hq) hP hD hS (lv_sub hl [0, 1, 2, 3, 4, 5] rfl)
  refine lv_aload_n hx hb dX7_shine_0 rfl (lv_at hl 0 rfl) ?_
  refine k_jim hP hD hS hA [0, 1, 2, 3] [false, false, false, false, true, true] rfl rfl rfl 0 0 (Nat.le_of_ble_eq_true rfl) (Nat.le_of_ble_eq_true rfl) (fun hPc hDc => k_runV (As := []) (rest := []) C0 hZ hS hA (s_X7_willing l dC dI cy sq a_this a_this_machine a_this_plan x_this_plan_cycle x_this_plan_green x_this_plan_rule x_this_plan_least x_this_plan_away x_this_plan_statements x_this_plan_kinds a_this_plan_calm a_this_plan_pace a_this_plan_trusts x_this_plan_walkers a_this_plan_kindOf g_this_plan_kindOf a_this_plan_comesAt a_this_plan_comers a_this_plan_names a_this_plan_code x_this_plan_size a_this_plan_spans x_this_day a_this_trusts g_this_trusts x_this_rule x_this_green x_this_absent x_this_asksReds a_this_cars a_this_gaps a_this_known a_this_left a_this_leaves x_this_pressed x_this_crossed x_this_went x_this_harmed (ib_w 0 12 hx_this_plan_walkers rfl) hg_this_plan_kindOf) mV_X7_123 hPc hDc rfl rfl rfl hl rfl rfl (Nat.le_of_ble_eq_true rfl) ⟨(Nat.le_of_ble_eq_true rfl), (Nat.le_of_ble_eq_true rfl)⟩ ⟨(Nat.le_of_ble_eq_true rfl), (Nat.le_of_ble_eq_true rfl)⟩ dX7_shine_1) (fun r101 u102 H locs hw hP hD hS => ?_)
  try dsimp only at hP hD hw
  replace hP : va_P (dC, dI) vwCl [(wi_0_200_0 a_this_plan_comers cy g_this_plan_comers), (wi_0_300_0 a_this_left cy g_this_left), (wo_7_rririiiirrrrriiii a_this a_this_machine a_this_plan x_this_day a_this_trusts x_this_rule x_this_green x_this_absent x_this_asksReds a_this_cars a_this_gaps a_this_known a_this_left a_this_leaves x_this_pressed x_this_crossed x_this_went x_this_harmed), (wo_4_iiiiiiirrrirrrrrir a_this_plan x_this_plan_cycle x_this_plan_green x_this_plan_rule x_this_plan_least x_this_plan_away x_this_plan_statements x_this_plan_kinds a_this_plan_calm a_this_plan_pace a_this_plan_trusts x_this_plan_walkers a_this_plan_kindOf a_this_plan_comesAt a_this_plan_comers a_this_plan_names a_this_plan_code x_this_plan_size a_this_plan_spans), (wi_0_12_0 a_this_plan_kindOf cy g_this_plan_kindOf), (wi_0_6_0 a_this_trusts cy g_this_trusts)] H := hP
  replace hD := k_D hP hD
  have h103 := hw
  replace hq := lf_b1 hq h103
  refine lv_istore_n (lv' := [(1, .int r101), (0, .ref a_this)]) hx hb dX7_shine_4 rfl hl (Nat.le_of_ble_eq_true rfl) rfl (fun ls hl => ?_)
  refine lv_aload_n hx hb dX7_shine_5 rfl (lv_at hl 1 rfl) ?_
  refine lv_iconst (v := 0) hx hb dX7_shine_6 rfl ?_
  refine k_put C0 fp_X7_47 hP hD hS 2 rfl rfl rfl (Nat.le_of_ble_eq_true rfl) dX7_shine_7 (fun H locs hP hD hS => ?_)
  replace hP : va_P (dC, dI) vwCl [(wi_0_200_0 a_this_plan_comers cy g_this_plan_comers), (wi_0_300_0 a_this_left cy g_this_left), (wo_7_rririiiirrrrriiii a_this a_this_machine a_this_plan x_this_day a_this_trusts x_this_rule x_this_green x_this_absent x_this_asksReds a_this_cars a_this_gaps a_this_known a_this_left a_this_leaves 0 x_this_crossed x_this_went x_this_harmed), (wo_4_iiiiiiirrrirrrrrir a_this_plan x_this_plan_cycle x_this_plan_green x_this_plan_rule x_this_plan_least x_this_plan_away x_this_plan_statements x_this_plan_kinds a_this_plan_calm a_this_plan_pace a_this_plan_trusts x_this_plan_walkers a_this_plan_kindOf a_this_plan_comesAt a_this_plan_comers a_this_plan_names a_this_plan_code x_this_plan_size a_this_plan_spans), (wi_0_12_0 a_this_plan_kindOf cy g_this_plan_kindOf), (wi_0_6_0 a_this_trusts cy g_this_trusts)] H := hP
  replace hD := k_D hP hD
  refine lv_iconst (v := 0) hx hb dX7_shine_10 rfl ?_
  refine lv_istore_n (lv' := [(2, .int 0), (1, .int r101), (0, .ref a_this)]) hx hb dX7_shine_11 rfl hl (Nat.le_of_ble_eq_true rfl) rfl (fun ls hl => ?_)
  refine lv_iconst (v := 0) hx hb dX7_shine_12 rfl ?_
  refine lv_istore_n (lv' := [(3, .int 0), (2, .int 0), (1, .int r101), (0, .ref a_this)]) hx hb dX7_shine_13 rfl hl (Nat.le_of_ble_eq_true rfl) rfl (fun ls hl => ?_)
  refine lv_iconst (v := (-1)) hx hb dX7_shine_14 rfl ?_
  refine lv_istore (lv' := [(4, .int (-1)), (3, .int 0), (2, .int 0), (1, .int r101), (0, .ref a_this)]) hx hb dX7_shine_15 hl (Nat.le_of_ble_eq_true rfl) rfl (fun ls hl => ?_)
  refine lv_iconst (v := 0) hx hb dX7_shine_17 rfl ?_
  refine lv_istore (lv' := [(5, .int 0), (4, .int (-1)), (3, .int 0), (2, .int 0), (1, .int r101), (0, .ref a_this)]) hx hb dX7_shine_18 hl (Nat.le_of_ble_eq_true rfl) rfl (fun ls hl => ?_)
  exact jn20 302 r101 0 0 (-1) 0 0 g_this_left H locs ls (ib_w 0 1 (ib_c 0 0 0 rfl) rfl) (ib_w 0 1 (ib_c 0 0 0 rfl) rfl) (ib_w (-1) 300 (ib_c (-1) (-1) (-1) rfl) rfl) (ib_w 0 300 (ib_c 0 0 0 rfl) rfl) (by try simp only [show (0 : Int32).toInt = (0 : Int) from rfl]; try simp only [show ((-1) : Int32).toInt = (-1 : Int) from rfl]; exact hq) (by have := (ib_c 0 0 0 rfl); unfold ib at this; omega) (hP.sub [2, 3, 4, 5, 0, 1] rfl) (hD.sub [2, 3, 4, 5, 0, 1] rfl rfl) hS (lv_sub hl [5, 4, 3, 2, 1, 0] rfl)
set_option maxHeartbeats 4000000 in
set_option maxRecDepth 100000 in
theorem s_X4_everyone (l : Launch) (dC : Nat → ClassId) (dI : Nat → Nat → Nat) (cy : Nat → ClassId) (sq : Nat → Nat) (a_this : Nat) (x_this_cycle : Int32) (x_this_green : Int32) (x_this_rule : Int32) (x_this_least : Int32) (x_this_away : Int32) (x_this_statements : Int32) (x_this_kinds : Int32) (a_this_calm : Nat) (a_this_pace : Nat) (a_this_trusts : Nat) (x_this_walkers : Int32) (a_this_kindOf : Nat) (a_this_comesAt : Nat) (a_this_comers : Nat) (a_this_names : Nat) (a_this_code : Nat) (x_this_size : Int32) (a_this_spans : Nat)  : k_Met l yX4_everyone cX4_everyone 1 (some .int) { frames := 0, cells := 0, slots := 0, locals := 0 } dC dI cy sq [.ref a_this] [(wo_4_iiiiiiirrrirrrrrir a_this x_this_cycle x_this_green x_this_rule x_this_least x_this_away x_this_statements x_this_kinds a_this_calm a_this_pace a_this_trusts x_this_walkers a_this_kindOf a_this_comesAt a_this_comers a_this_names a_this_code x_this_size a_this_spans)] (k_Qi dC dI (fun (r : Int32) (_ : Unit) => (F_X4_everyone (Int32.toInt x_this_walkers) = ((Int32.toInt r)))) (fun _ : Unit => [(wo_4_iiiiiiirrrirrrrrir a_this x_this_cycle x_this_green x_this_rule x_this_least x_this_away x_this_statements x_this_kinds a_this_calm a_this_pace a_this_trusts x_this_walkers a_this_kindOf a_this_comesAt a_this_comers a_this_names a_this_code x_this_size a_this_spans)])) := by
  refine k_ofW2 (by decide +kernel) (Nat.le_of_ble_eq_true rfl) ?_
  intro p e s m below meth c A ls H locs args Q hQ C0 hZ hr hlk hin hP hD hA hS hl
  have C0 : k_cx p s m args c cX4_everyone 1 RX4 dC dI cy sq := C0
  have hx := C0.1
  have hb := C0.2.1
  have hl : lv_has ls 1 [(0, .ref a_this)] := hl
  obtain ⟨O, hO⟩ : ∃ o, o = F_X4_everyone (Int32.toInt x_this_walkers) := ⟨_, rfl⟩
  have hq := hO
  unfold F_X4_everyone at hq
  refine lv_iconst (v := 1) hx hb dX4_everyone_0 rfl ?_
  refine lv_aload_n hx hb dX4_everyone_1 rfl (lv_at hl 0 rfl) ?_
  refine k_get C0 fg_X4_52 hP 0 rfl rfl dX4_everyone_2 ?_
  refine lv_ishl hx hb dX4_everyone_5 ?_
  refine lv_topi (fun z1 ez1 => ?_)
  have Ez1 := lf_op lf_ishl ez1 (lf_lc 1 (1 : Int) rfl) (lf_rf x_this_walkers)
  refine lv_iconst (v := 1) hx hb dX4_everyone_6 rfl ?_
  refine lv_isub hx hb dX4_everyone_7 ?_
  refine lv_topi (fun z2 ez2 => ?_)
  have Ez2 := lf_op lf_isub ez2 Ez1 (lf_lc 1 (1 : Int) rfl)
  subst hQ; exact k_iret hx hb hr hlk rfl () hS ((hO.symm.trans (by rw [lf_u Ez2]; exact hq))) hP hD (Nat.le_of_ble_eq_true rfl) (Nat.le_of_ble_eq_true rfl) dX4_everyone_8
set_option maxHeartbeats 4000000 in
set_option maxRecDepth 100000 in
theorem s_X7_describe (l : Launch) (dC : Nat → ClassId) (dI : Nat → Nat → Nat) (cy : Nat → ClassId) (sq : Nat → Nat) (a_this : Nat) (a_this_machine : Nat) (a_this_machine_facts : Nat) (g_this_machine_facts : Nat → Int32) (a_this_machine_stack : Nat) (a_this_plan : Nat) (x_this_plan_cycle : Int32) (x_this_plan_green : Int32) (x_this_plan_rule : Int32) (x_this_plan_least : Int32) (x_this_plan_away : Int32) (x_this_plan_statements : Int32) (x_this_plan_kinds : Int32) (a_this_plan_calm : Nat) (g_this_plan_calm : Nat → Int32) (a_this_plan_pace : Nat) (g_this_plan_pace : Nat → Int32) (a_this_plan_trusts : Nat) (x_this_plan_walkers : Int32) (a_this_plan_kindOf : Nat) (g_this_plan_kindOf : Nat → Int32) (a_this_plan_comesAt : Nat) (a_this_plan_comers : Nat) (a_this_plan_names : Nat) (a_this_plan_code : Nat) (x_this_plan_size : Int32) (a_this_plan_spans : Nat) (x_this_day : Int32) (a_this_trusts : Nat) (x_this_rule : Int32) (x_this_green : Int32) (x_this_absent : Int32) (x_this_asksReds : Int32) (a_this_cars : Nat) (a_this_gaps : Nat) (a_this_known : Nat) (a_this_left : Nat) (a_this_leaves : Nat) (x_this_pressed : Int32) (x_this_crossed : Int32) (x_this_went : Int32) (x_this_harmed : Int32) (p0 : Int32) (p1 : Int32) (p2 : Int32) (p3 : Int32) (hg_this_plan_kindOf : ia g_this_plan_kindOf 12 0 5) (hp0 : ib p0 0 11) : k_Met l yX7_describe cX7_describe 7 none { frames := 0, cells := 0, slots := 0, locals := 0 } dC dI cy sq [.ref a_this, .int p0, .int p1, .int p2, .int p3] [(wo_7_rririiiirrrrriiii a_this a_this_machine a_this_plan x_this_day a_this_trusts x_this_rule x_this_green x_this_absent x_this_asksReds a_this_cars a_this_gaps a_this_known a_this_left a_this_leaves x_this_pressed x_this_crossed x_this_went x_this_harmed), (wo_4_iiiiiiirrrirrrrrir a_this_plan x_this_plan_cycle x_this_plan_green x_this_plan_rule x_this_plan_least x_this_plan_away x_this_plan_statements x_this_plan_kinds a_this_plan_calm a_this_plan_pace a_this_plan_trusts x_this_plan_walkers a_this_plan_kindOf a_this_plan_comesAt a_this_plan_comers a_this_plan_names a_this_plan_code x_this_plan_size a_this_plan_spans), (wi_0_12_0 a_this_plan_kindOf cy g_this_plan_kindOf), (wo_3_rr a_this_machine a_this_machine_facts a_this_machine_stack), (wi_0_13_0 a_this_machine_facts cy g_this_machine_facts), (wi_0_6_0 a_this_plan_calm cy g_this_plan_calm), (wi_0_6_0 a_this_plan_pace cy g_this_plan_pace)] (k_Qv dC dI (fun (n0 : (Nat → Int32)) => (F_X7_describe (lf_A g_this_machine_facts) (lf_A g_this_plan_calm) (lf_A g_this_plan_pace) (lf_A g_this_plan_kindOf) (Int32.toInt x_this_day) (Int32.toInt p0) (Int32.toInt p1) (Int32.toInt p2) (Int32.toInt p3) = ((lf_A n0)))) (fun n0 : (Nat → Int32) => [(wo_7_rririiiirrrrriiii a_this a_this_machine a_this_plan x_this_day a_this_trusts x_this_rule x_this_green x_this_absent x_this_asksReds a_this_cars a_this_gaps a_this_known a_this_left a_this_leaves x_this_pressed x_this_crossed x_this_went x_this_harmed), (wo_4_iiiiiiirrrirrrrrir a_this_plan x_this_plan_cycle x_this_plan_green x_this_plan_rule x_this_plan_least x_this_plan_away x_this_plan_statements x_this_plan_kinds a_this_plan_calm a_this_plan_pace a_this_plan_trusts x_this_plan_walkers a_this_plan_kindOf a_this_plan_comesAt a_this_plan_comers a_this_plan_names a_this_plan_code x_this_plan_size a_this_plan_spans), (wi_0_12_0 a_this_plan_kindOf cy g_this_plan_kindOf), (wo_3_rr a_this_machine a_this_machine_facts a_this_machine_stack), (wi_0_13_0 a_this_machine_facts cy n0), (wi_0_6_0 a_this_plan_calm cy g_this_plan_calm), (wi_0_6_0 a_this_plan_pace cy g_this_plan_pace)])) := by
  refine k_ofW2 (by decide +kernel) (Nat.le_of_ble_eq_true rfl) ?_
  intro p e s m below meth c A ls H locs args Q hQ C0 hZ hr hlk hin hP hD hA hS hl
  have C0 : k_cx p s m args c cX7_describe 7 RX7 dC dI cy sq := C0
  have hx := C0.1
  have hb := C0.2.1
  have hl : lv_has ls 7 [(0, .ref a_this), (1, .int p0), (2, .int p1), (3, .int p2), (4, .int p3)] := hl
  obtain ⟨O, hO⟩ : ∃ o, o = F_X7_describe (lf_A g_this_machine_facts) (lf_A g_this_plan_calm) (lf_A g_this_plan_pace) (lf_A g_this_plan_kindOf) (Int32.toInt x_this_day) (Int32.toInt p0) (Int32.toInt p1) (Int32.toInt p2) (Int32.toInt p3) := ⟨_, rfl⟩
  have hq := hO
  unfold F_X7_describe at hq
  refine lv_aload_n hx hb dX7_describe_0 rfl (lv_at hl 0 rfl) ?_
  refine k_get C0 fg_X7_63 hP 0 rfl rfl dX7_describe_1 ?_
  refine k_get C0 fg_X7_140 hP 1 rfl rfl dX7_describe_4 ?_
  refine lv_iload_n hx hb dX7_describe_7 rfl (lv_at hl 1 rfl) ?_
  refine va_iald hx hb C0.2.2.2.2.2.1 hP 2 0 rfl rfl (ib_in 12 hp0 rfl) dX7_describe_8 ?_
  refine lv_topi (fun z1 ez1 => ?_)
  have h2 : ib z1 0 5 := by rw [ez1]; exact ia_at hg_this_plan_kindOf (ib_in 12 hp0 rfl)
  have Ez1 := lf_ld ez1 (lf_ra g_this_plan_kindOf) (lf_rf p0)
  refine lv_istore (lv' := [(5, .int z1), (0, .ref a_this), (1, .int p0), (2, .int p1), (3, .int p2), (4, .int p3)]) hx hb dX7_describe_9 hl (Nat.le_of_ble_eq_true rfl) rfl (fun ls hl => ?_)
  refine lv_aload_n hx hb dX7_describe_11 rfl (lv_at hl 1 rfl) ?_
  refine k_get C0 fg_X7_59 hP 0 rfl rfl dX7_describe_12 ?_
  refine k_get C0 fg_X7_102 hP 3 rfl rfl dX7_describe_15 ?_
  refine lv_astore (lv' := [(6, .ref a_this_machine_facts), (5, .int z1), (0, .ref a_this), (1, .int p0), (2, .int p1), (3, .int p2), (4, .int p3)]) hx hb dX7_describe_18 hl (Nat.le_of_ble_eq_true rfl) rfl (fun ls hl => ?_)
  refine lv_aload hx hb dX7_describe_20 (lv_at hl 0 rfl) ?_
  refine lv_iconst (v := 0) hx hb dX7_describe_22 rfl ?_
  refine lv_iload_n hx hb dX7_describe_23 rfl (lv_at hl 4 rfl) ?_
  refine va_iast hx hb C0.2.2.2.2.2.1 hP hD hS 4 0 rfl rfl (k_in 0 13 rfl) dX7_describe_24 (fun H locs hP hD hS => ?_)
  replace hP : va_P (dC, dI) vwCl [(wo_7_rririiiirrrrriiii a_this a_this_machine a_this_plan x_this_day a_this_trusts x_this_rule x_this_green x_this_absent x_this_asksReds a_this_cars a_this_gaps a_this_known a_this_left a_this_leaves x_this_pressed x_this_crossed x_this_went x_this_harmed), (wo_4_iiiiiiirrrirrrrrir a_this_plan x_this_plan_cycle x_this_plan_green x_this_plan_rule x_this_plan_least x_this_plan_away x_this_plan_statements x_this_plan_kinds a_this_plan_calm a_this_plan_pace a_this_plan_trusts x_this_plan_walkers a_this_plan_kindOf a_this_plan_comesAt a_this_plan_comers a_this_plan_names a_this_plan_code x_this_plan_size a_this_plan_spans), (wi_0_12_0 a_this_plan_kindOf cy g_this_plan_kindOf), (wo_3_rr a_this_machine a_this_machine_facts a_this_machine_stack), (wi_0_13_0 a_this_machine_facts cy (upd g_this_machine_facts (Int32.toNatClampNeg 0) p1)), (wi_0_6_0 a_this_plan_calm cy g_this_plan_calm), (wi_0_6_0 a_this_plan_pace cy g_this_plan_pace)] H := hP
  replace hD := k_D hP hD
  generalize ef3 : upd g_this_machine_facts (Int32.toNatClampNeg 0) p1 = f3 at hP hD
  have Ef3 := lf_st ef3 (lf_ra g_this_machine_facts) (lf_lc 0 (0 : Int) rfl) (lf_rf p1)
  as_aux_lemma =>
    refine lv_aload hx hb dX7_describe_25 (lv_at hl 0 rfl) ?_
    refine lv_iconst (v := 1) hx hb dX7_describe_27 rfl ?_
    refine lv_aload_n hx hb dX7_describe_28 rfl (lv_at hl 2 rfl) ?_
    refine k_get C0 fg_X7_9 hP 0 rfl rfl dX7_describe_29 ?_
    refine va_iast hx hb C0.2.2.2.2.2.1 hP hD hS 4 0 rfl rfl (k_in 1 13 rfl) dX7_describe_32 (fun H locs hP hD hS => ?_)
    replace hP : va_P (dC, dI) vwCl [(wo_7_rririiiirrrrriiii a_this a_this_machine a_this_plan x_this_day a_this_trusts x_this_rule x_this_green x_this_absent x_this_asksReds a_this_cars a_this_gaps a_this_known a_this_left a_this_leaves x_this_pressed x_this_crossed x_this_went x_this_harmed), (wo_4_iiiiiiirrrirrrrrir a_this_plan x_this_plan_cycle x_this_plan_green x_this_plan_rule x_this_plan_least x_this_plan_away x_this_plan_statements x_this_plan_kinds a_this_plan_calm a_this_plan_pace a_this_plan_trusts x_this_plan_walkers a_this_plan_kindOf a_this_plan_comesAt a_this_plan_comers a_this_plan_names a_this_plan_code x_this_plan_size a_this_plan_spans), (wi_0_12_0 a_this_plan_kindOf cy g_this_plan_kindOf), (wo_3_rr a_this_machine a_this_machine_facts a_this_machine_stack), (wi_0_13_0 a_this_machine_facts cy (upd f3 (Int32.toNatClampNeg 1) x_this_day)), (wi_0_6_0 a_this_plan_calm cy g_this_plan_calm), (wi_0_6_0 a_this_plan_pace cy g_this_plan_pace)] H := hP
    replace hD := k_D hP hD
    generalize ef4 : upd f3 (Int32.toNatClampNeg 1) x_this_day = f4 at hP hD
    have Ef4 := lf_st ef4 Ef3 (lf_lc 1 (1 : Int) rfl) (lf_rf x_this_day)
    refine lv_aload hx hb dX7_describe_33 (lv_at hl 0 rfl) ?_
    refine lv_iconst (v := 3) hx hb dX7_describe_35 rfl ?_
    refine lv_iload_n hx hb dX7_describe_36 rfl (lv_at hl 5 rfl) ?_
    refine va_iast hx hb C0.2.2.2.2.2.1 hP hD hS 4 0 rfl rfl (k_in 3 13 rfl) dX7_describe_37 (fun H locs hP hD hS => ?_)
    replace hP : va_P (dC, dI) vwCl [(wo_7_rririiiirrrrriiii a_this a_this_machine a_this_plan x_this_day a_this_trusts x_this_rule x_this_green x_this_absent x_this_asksReds a_this_cars a_this_gaps a_this_known a_this_left a_this_leaves x_this_pressed x_this_crossed x_this_went x_this_harmed), (wo_4_iiiiiiirrrirrrrrir a_this_plan x_this_plan_cycle x_this_plan_green x_this_plan_rule x_this_plan_least x_this_plan_away x_this_plan_statements x_this_plan_kinds a_this_plan_calm a_this_plan_pace a_this_plan_trusts x_this_plan_walkers a_this_plan_kindOf a_this_plan_comesAt a_this_plan_comers a_this_plan_names a_this_plan_code x_this_plan_size a_this_plan_spans), (wi_0_12_0 a_this_plan_kindOf cy g_this_plan_kindOf), (wo_3_rr a_this_machine a_this_machine_facts a_this_machine_stack), (wi_0_13_0 a_this_machine_facts cy (upd f4 (Int32.toNatClampNeg 3) p2)), (wi_0_6_0 a_this_plan_calm cy g_this_plan_calm), (wi_0_6_0 a_this_plan_pace cy g_this_plan_pace)] H := hP
    replace hD := k_D hP hD
    generalize ef5 : upd f4 (Int32.toNatClampNeg 3) p2 = f5 at hP hD
    have Ef5 := lf_st ef5 Ef4 (lf_lc 3 (3 : Int) rfl) (lf_rf p2)
    refine lv_aload hx hb dX7_describe_38 (lv_at hl 0 rfl) ?_
    refine lv_iconst (v := 4) hx hb dX7_describe_40 rfl ?_
    refine lv_aload_n hx hb dX7_describe_41 rfl (lv_at hl 2 rfl) ?_
    refine k_get C0 fg_X7_63 hP 0 rfl rfl dX7_describe_42 ?_
    refine k_get C0 fg_X7_160 hP 1 rfl rfl dX7_describe_45 ?_
    refine lv_iload hx hb dX7_describe_48 (lv_at hl 1 rfl) ?_
    refine va_iald hx hb C0.2.2.2.2.2.1 hP 5 0 rfl rfl (ib_in 6 h2 rfl) dX7_describe_50 ?_
    refine lv_topi (fun z6 ez6 => ?_)
    have Ez6 := lf_ld ez6 (lf_ra g_this_plan_calm) Ez1
    refine va_iast hx hb C0.2.2.2.2.2.1 hP hD hS 4 0 rfl rfl (k_in 4 13 rfl) dX7_describe_51 (fun H locs hP hD hS => ?_)
    replace hP : va_P (dC, dI) vwCl [(wo_7_rririiiirrrrriiii a_this a_this_machine a_this_plan x_this_day a_this_trusts x_this_rule x_this_green x_this_absent x_this_asksReds a_this_cars a_this_gaps a_this_known a_this_left a_this_leaves x_this_pressed x_this_crossed x_this_went x_this_harmed), (wo_4_iiiiiiirrrirrrrrir a_this_plan x_this_plan_cycle x_this_plan_green x_this_plan_rule x_this_plan_least x_this_plan_away x_this_plan_statements x_this_plan_kinds a_this_plan_calm a_this_plan_pace a_this_plan_trusts x_this_plan_walkers a_this_plan_kindOf a_this_plan_comesAt a_this_plan_comers a_this_plan_names a_this_plan_code x_this_plan_size a_this_plan_spans), (wi_0_12_0 a_this_plan_kindOf cy g_this_plan_kindOf), (wo_3_rr a_this_machine a_this_machine_facts a_this_machine_stack), (wi_0_13_0 a_this_machine_facts cy (upd f5 (Int32.toNatClampNeg 4) z6)), (wi_0_6_0 a_this_plan_calm cy g_this_plan_calm), (wi_0_6_0 a_this_plan_pace cy g_this_plan_pace)] H := hP
    replace hD := k_D hP hD
    generalize ef7 : upd f5 (Int32.toNatClampNeg 4) z6 = f7 at hP hD
    as_aux_lemma =>
      have Ef7 := lf_st ef7 Ef5 (lf_lc 4 (4 : Int) rfl) Ez6
      refine lv_aload hx hb dX7_describe_52 (lv_at hl 0 rfl) ?_
      refine lv_iconst (v := 5) hx hb dX7_describe_54 rfl ?_
      refine lv_aload_n hx hb dX7_describe_55 rfl (lv_at hl 2 rfl) ?_
      refine k_get C0 fg_X7_63 hP 0 rfl rfl dX7_describe_56 ?_
      refine k_get C0 fg_X7_146 hP 1 rfl rfl dX7_describe_59 ?_
      refine lv_iload hx hb dX7_describe_62 (lv_at hl 1 rfl) ?_
      refine va_iald hx hb C0.2.2.2.2.2.1 hP 6 0 rfl rfl (ib_in 6 h2 rfl) dX7_describe_64 ?_
      refine lv_topi (fun z8 ez8 => ?_)
      have Ez8 := lf_ld ez8 (lf_ra g_this_plan_pace) Ez1
      refine va_iast hx hb C0.2.2.2.2.2.1 hP hD hS 4 0 rfl rfl (k_in 5 13 rfl) dX7_describe_65 (fun H locs hP hD hS => ?_)
      replace hP : va_P (dC, dI) vwCl [(wo_7_rririiiirrrrriiii a_this a_this_machine a_this_plan x_this_day a_this_trusts x_this_rule x_this_green x_this_absent x_this_asksReds a_this_cars a_this_gaps a_this_known a_this_left a_this_leaves x_this_pressed x_this_crossed x_this_went x_this_harmed), (wo_4_iiiiiiirrrirrrrrir a_this_plan x_this_plan_cycle x_this_plan_green x_this_plan_rule x_this_plan_least x_this_plan_away x_this_plan_statements x_this_plan_kinds a_this_plan_calm a_this_plan_pace a_this_plan_trusts x_this_plan_walkers a_this_plan_kindOf a_this_plan_comesAt a_this_plan_comers a_this_plan_names a_this_plan_code x_this_plan_size a_this_plan_spans), (wi_0_12_0 a_this_plan_kindOf cy g_this_plan_kindOf), (wo_3_rr a_this_machine a_this_machine_facts a_this_machine_stack), (wi_0_13_0 a_this_machine_facts cy (upd f7 (Int32.toNatClampNeg 5) z8)), (wi_0_6_0 a_this_plan_calm cy g_this_plan_calm), (wi_0_6_0 a_this_plan_pace cy g_this_plan_pace)] H := hP
      replace hD := k_D hP hD
      generalize ef9 : upd f7 (Int32.toNatClampNeg 5) z8 = f9 at hP hD
      have Ef9 := lf_st ef9 Ef7 (lf_lc 5 (5 : Int) rfl) Ez8
      refine lv_aload hx hb dX7_describe_66 (lv_at hl 0 rfl) ?_
      refine lv_bipush (v := 6) hx hb dX7_describe_68 rfl ?_
      refine lv_iload hx hb dX7_describe_70 (lv_at hl 6 rfl) ?_
      refine va_iast hx hb C0.2.2.2.2.2.1 hP hD hS 4 0 rfl rfl (k_in 6 13 rfl) dX7_describe_72 (fun H locs hP hD hS => ?_)
      replace hP : va_P (dC, dI) vwCl [(wo_7_rririiiirrrrriiii a_this a_this_machine a_this_plan x_this_day a_this_trusts x_this_rule x_this_green x_this_absent x_this_asksReds a_this_cars a_this_gaps a_this_known a_this_left a_this_leaves x_this_pressed x_this_crossed x_this_went x_this_harmed), (wo_4_iiiiiiirrrirrrrrir a_this_plan x_this_plan_cycle x_this_plan_green x_this_plan_rule x_this_plan_least x_this_plan_away x_this_plan_statements x_this_plan_kinds a_this_plan_calm a_this_plan_pace a_this_plan_trusts x_this_plan_walkers a_this_plan_kindOf a_this_plan_comesAt a_this_plan_comers a_this_plan_names a_this_plan_code x_this_plan_size a_this_plan_spans), (wi_0_12_0 a_this_plan_kindOf cy g_this_plan_kindOf), (wo_3_rr a_this_machine a_this_machine_facts a_this_machine_stack), (wi_0_13_0 a_this_machine_facts cy (upd f9 (Int32.toNatClampNeg 6) p3)), (wi_0_6_0 a_this_plan_calm cy g_this_plan_calm), (wi_0_6_0 a_this_plan_pace cy g_this_plan_pace)] H := hP
      replace hD := k_D hP hD
      generalize ef10 : upd f9 (Int32.toNatClampNeg 6) p3 = f10 at hP hD
      have Ef10 := lf_st ef10 Ef9 (lf_lc 6 (6 : Int) rfl) (lf_rf p3)
      subst hQ; exact k_vret hx hb hr hlk f10 hS ((hO.symm.trans (by rw [lf_ua Ef10]; exact hq))) hP hD (Nat.le_of_ble_eq_true rfl) (Nat.le_of_ble_eq_true rfl) dX7_describe_73
set_option maxHeartbeats 4000000 in
set_option maxRecDepth 100000 in
theorem s_X7_goes (l : Launch) (dC : Nat → ClassId) (dI : Nat → Nat → Nat) (cy : Nat → ClassId) (sq : Nat → Nat) (a_this : Nat) (a_this_machine : Nat) (a_this_machine_facts : Nat) (g_this_machine_facts : Nat → Int32) (a_this_machine_stack : Nat) (g_this_machine_stack : Nat → Int32) (a_this_plan : Nat) (x_this_plan_cycle : Int32) (x_this_plan_green : Int32) (x_this_plan_rule : Int32) (x_this_plan_least : Int32) (x_this_plan_away : Int32) (x_this_plan_statements : Int32) (x_this_plan_kinds : Int32) (a_this_plan_calm : Nat) (g_this_plan_calm : Nat → Int32) (a_this_plan_pace : Nat) (g_this_plan_pace : Nat → Int32) (a_this_plan_trusts : Nat) (x_this_plan_walkers : Int32) (a_this_plan_kindOf : Nat) (g_this_plan_kindOf : Nat → Int32) (a_this_plan_comesAt : Nat) (g_this_plan_comesAt : Nat → Int32) (a_this_plan_comers : Nat) (a_this_plan_names : Nat) (a_this_plan_code : Nat) (g_this_plan_code : Nat → Int32) (x_this_plan_size : Int32) (a_this_plan_spans : Nat) (g_this_plan_spans : Nat → Int32) (x_this_day : Int32) (a_this_trusts : Nat) (g_this_trusts : Nat → Int32) (x_this_rule : Int32) (x_this_green : Int32) (x_this_absent : Int32) (x_this_asksReds : Int32) (a_this_cars : Nat) (a_this_gaps : Nat) (g_this_gaps : Nat → Int32) (a_this_known : Nat) (g_this_known : Nat → Int32) (a_this_left : Nat) (a_this_leaves : Nat) (x_this_pressed : Int32) (x_this_crossed : Int32) (x_this_went : Int32) (x_this_harmed : Int32) (p0 : Int32) (p1 : Int32) (p2 : Int32) (hg_this_plan_kindOf : ia g_this_plan_kindOf 12 0 5) (hg_this_plan_comesAt : ia g_this_plan_comesAt 12 0 199) (hg_this_plan_spans : ia g_this_plan_spans 6 0 1600) (hx_this_asksReds : ib x_this_asksReds 0 1) (hp0 : ib p0 0 11) (hp1 : ib p1 0 299) : k_Met l yX7_goes cX7_goes 8 (some .boolean) { frames := 3, cells := 0, slots := 0, locals := 70 } dC dI cy sq [.ref a_this, .int p0, .int p1, .int p2] [(wo_7_rririiiirrrrriiii a_this a_this_machine a_this_plan x_this_day a_this_trusts x_this_rule x_this_green x_this_absent x_this_asksReds a_this_cars a_this_gaps a_this_known a_this_left a_this_leaves x_this_pressed x_this_crossed x_this_went x_this_harmed), (wi_0_3600_0 a_this_known cy g_this_known), (wo_3_rr a_this_machine a_this_machine_facts a_this_machine_stack), (wi_0_320_0 a_this_gaps cy g_this_gaps), (wi_0_13_0 a_this_machine_facts cy g_this_machine_facts), (wo_4_iiiiiiirrrirrrrrir a_this_plan x_this_plan_cycle x_this_plan_green x_this_plan_rule x_this_plan_least x_this_plan_away x_this_plan_statements x_this_plan_kinds a_this_plan_calm a_this_plan_pace a_this_plan_trusts x_this_plan_walkers a_this_plan_kindOf a_this_plan_comesAt a_this_plan_comers a_this_plan_names a_this_plan_code x_this_plan_size a_this_plan_spans), (wi_0_12_0 a_this_plan_comesAt cy g_this_plan_comesAt), (wi_0_12_0 a_this_plan_kindOf cy g_this_plan_kindOf), (wi_0_6_0 a_this_trusts cy g_this_trusts), (wi_0_6_0 a_this_plan_calm cy g_this_plan_calm), (wi_0_6_0 a_this_plan_pace cy g_this_plan_pace), (wi_0_6_0 a_this_plan_spans cy g_this_plan_spans), (wi_0_1600_0 a_this_plan_code cy g_this_plan_code), (wi_0_64_0 a_this_machine_stack cy g_this_machine_stack)] (k_Qi dC dI (fun (r : Int32) (u : (Nat → Int32) × (Nat → Int32) × (Nat → Int32)) => match u with | (n0, n1, n2) => ib r 0 1 ∧ (F_X7_goes (lf_A g_this_machine_facts) (lf_A g_this_machine_stack) (lf_A g_this_plan_calm) (lf_A g_this_plan_pace) (lf_A g_this_plan_kindOf) (lf_A g_this_plan_comesAt) (lf_A g_this_plan_code) (lf_A g_this_plan_spans) (Int32.toInt x_this_day) (lf_A g_this_trusts) (Int32.toInt x_this_asksReds) (lf_A g_this_gaps) (lf_A g_this_known) (Int32.toInt p0) (Int32.toInt p1) (Int32.toInt p2) = ((Int32.toInt r), (lf_A n0), (lf_A n1), (lf_A n2)))) (fun u : (Nat → Int32) × (Nat → Int32) × (Nat → Int32) => match u with | (n0, n1, n2) => [(wo_7_rririiiirrrrriiii a_this a_this_machine a_this_plan x_this_day a_this_trusts x_this_rule x_this_green x_this_absent x_this_asksReds a_this_cars a_this_gaps a_this_known a_this_left a_this_leaves x_this_pressed x_this_crossed x_this_went x_this_harmed), (wi_0_3600_0 a_this_known cy n0), (wo_3_rr a_this_machine a_this_machine_facts a_this_machine_stack), (wi_0_320_0 a_this_gaps cy g_this_gaps), (wi_0_13_0 a_this_machine_facts cy n1), (wo_4_iiiiiiirrrirrrrrir a_this_plan x_this_plan_cycle x_this_plan_green x_this_plan_rule x_this_plan_least x_this_plan_away x_this_plan_statements x_this_plan_kinds a_this_plan_calm a_this_plan_pace a_this_plan_trusts x_this_plan_walkers a_this_plan_kindOf a_this_plan_comesAt a_this_plan_comers a_this_plan_names a_this_plan_code x_this_plan_size a_this_plan_spans), (wi_0_12_0 a_this_plan_comesAt cy g_this_plan_comesAt), (wi_0_12_0 a_this_plan_kindOf cy g_this_plan_kindOf), (wi_0_6_0 a_this_trusts cy g_this_trusts), (wi_0_6_0 a_this_plan_calm cy g_this_plan_calm), (wi_0_6_0 a_this_plan_pace cy g_this_plan_pace), (wi_0_6_0 a_this_plan_spans cy g_this_plan_spans), (wi_0_1600_0 a_this_plan_code cy g_this_plan_code), (wi_0_64_0 a_this_machine_stack cy n2)])) := by
  refine k_ofW2 (by decide +kernel) (Nat.le_of_ble_eq_true rfl) ?_
  intro p e s m below meth c A ls H locs args Q hQ C0 hZ hr hlk hin hP hD hA hS hl
  have C0 : k_cx p s m args c cX7_goes 8 RX7 dC dI cy sq := C0
  have hx := C0.1
  have hb := C0.2.1
  have hl : lv_has ls 8 [(0, .ref a_this), (1, .int p0), (2, .int p1), (3, .int p2)] := hl
  obtain ⟨O, hO⟩ : ∃ o, o = F_X7_goes (lf_A g_this_machine_facts) (lf_A g_this_machine_stack) (lf_A g_this_plan_calm) (lf_A g_this_plan_pace) (lf_A g_this_plan_kindOf) (lf_A g_this_plan_comesAt) (lf_A g_this_plan_code) (lf_A g_this_plan_spans) (Int32.toInt x_this_day) (lf_A g_this_trusts) (Int32.toInt x_this_asksReds) (lf_A g_this_gaps) (lf_A g_this_known) (Int32.toInt p0) (Int32.toInt p1) (Int32.toInt p2) := ⟨_, rfl⟩
  have hq := hO
  unfold F_X7_goes at hq
  have jn150 : ∀ (J150_l4 : Int32) (J150_l5 : Int32) (J150_a1 : Nat → Int32) (J150_a4 : Nat → Int32) (J150_a13 : Nat → Int32) (H : Heap) (locs : List Loc) (ls : Array Slot), ib J150_l4 0 3599 → (O = F_X7_goes_150 (Int32.toInt J150_l4) (Int32.toInt J150_l5) (lf_A J150_a1) (lf_A J150_a4) (lf_A J150_a13)) → va_P (dC, dI) vwCl [(wo_7_rririiiirrrrriiii a_this a_this_machine a_this_plan x_this_day a_this_trusts x_this_rule x_this_green x_this_absent x_this_asksReds a_this_cars a_this_gaps a_this_known a_this_left a_this_leaves x_this_pressed x_this_crossed x_this_went x_this_harmed), (wi_0_3600_0 a_this_known cy J150_a1), (wo_3_rr a_this_machine a_this_machine_facts a_this_machine_stack), (wi_0_320_0 a_this_gaps cy g_this_gaps), (wi_0_13_0 a_this_machine_facts cy J150_a4), (wo_4_iiiiiiirrrirrrrrir a_this_plan x_this_plan_cycle x_this_plan_green x_this_plan_rule x_this_plan_least x_this_plan_away x_this_plan_statements x_this_plan_kinds a_this_plan_calm a_this_plan_pace a_this_plan_trusts x_this_plan_walkers a_this_plan_kindOf a_this_plan_comesAt a_this_plan_comers a_this_plan_names a_this_plan_code x_this_plan_size a_this_plan_spans), (wi_0_12_0 a_this_plan_comesAt cy g_this_plan_comesAt), (wi_0_12_0 a_this_plan_kindOf cy g_this_plan_kindOf), (wi_0_6_0 a_this_trusts cy g_this_trusts), (wi_0_6_0 a_this_plan_calm cy g_this_plan_calm), (wi_0_6_0 a_this_plan_pace cy g_this_plan_pace), (wi_0_6_0 a_this_plan_spans cy g_this_plan_spans), (wi_0_1600_0 a_this_plan_code cy g_this_plan_code), (wi_0_64_0 a_this_machine_stack cy J150_a13)] H → va_D A [(wo_7_rririiiirrrrriiii a_this a_this_machine a_this_plan x_this_day a_this_trusts x_this_rule x_this_green x_this_absent x_this_asksReds a_this_cars a_this_gaps a_this_known a_this_left a_this_leaves x_this_pressed x_this_crossed x_this_went x_this_harmed), (wi_0_3600_0 a_this_known cy J150_a1), (wo_3_rr a_this_machine a_this_machine_facts a_this_machine_stack), (wi_0_320_0 a_this_gaps cy g_this_gaps), (wi_0_13_0 a_this_machine_facts cy J150_a4), (wo_4_iiiiiiirrrirrrrrir a_this_plan x_this_plan_cycle x_this_plan_green x_this_plan_rule x_this_plan_least x_this_plan_away x_this_plan_statements x_this_plan_kinds a_this_plan_calm a_this_plan_pace a_this_plan_trusts x_this_plan_walkers a_this_plan_kindOf a_this_plan_comesAt a_this_plan_comers a_this_plan_names a_this_plan_code x_this_plan_size a_this_plan_spans), (wi_0_12_0 a_this_plan_comesAt cy g_this_plan_comesAt), (wi_0_12_0 a_this_plan_kindOf cy g_this_plan_kindOf), (wi_0_6_0 a_this_trusts cy g_this_trusts), (wi_0_6_0 a_this_plan_calm cy g_this_plan_calm), (wi_0_6_0 a_this_plan_pace cy g_this_plan_pace), (wi_0_6_0 a_this_plan_spans cy g_this_plan_spans), (wi_0_1600_0 a_this_plan_code cy g_this_plan_code), (wi_0_64_0 a_this_machine_stack cy J150_a13)] → va_S A s.heap H locs → lv_has ls 8 [(0, .ref a_this), (1, .int p0), (2, .int p1), (3, .int p2), (4, .int J150_l4), (5, .int J150_l5)] → W p l e { frames := 3, cells := 0, slots := 0, locals := 70 } s m args below meth c H locs 0 0 Q (F0 m 150 ls []) := by
    as_aux_lemma =>
      intro J150_l4 J150_l5 J150_a1 J150_a4 J150_a13 H locs ls hJ150_l4 hq hP hD hS hl
      unfold F_X7_goes_150 at hq
      refine lv_aload_n hx hb dX7_goes_150 rfl (lv_at hl 0 rfl) ?_
      refine k_get C0 fg_X7_38 hP 0 rfl rfl dX7_goes_151 ?_
      refine lv_iload hx hb dX7_goes_154 (lv_at hl 4 rfl) ?_
      refine va_iald hx hb C0.2.2.2.2.2.1 hP 1 0 rfl rfl (ib_in 3600 hJ150_l4 rfl) dX7_goes_156 ?_
      refine lv_topi (fun z1 ez1 => ?_)
      have Ez1 := lf_ld ez1 (lf_ra J150_a1) (lf_rf J150_l4)
      refine lv_iload hx hb dX7_goes_157 (lv_at hl 5 rfl) ?_
      refine lv_ishr hx hb dX7_goes_159 ?_
      refine lv_topi (fun z2 ez2 => ?_)
      have Ez2 := lf_op lf_ishr ez2 Ez1 (lf_rf J150_l5)
      refine lv_iconst (v := 2) hx hb dX7_goes_160 rfl ?_
      refine lv_iand hx hb dX7_goes_161 ?_
      refine lv_topi (fun z3 ez3 => ?_)
      have Ez3 := lf_op lf_iand ez3 Ez2 (lf_lc 2 (2 : Int) rfl)
      refine lv_if_eq (tgt := 169) hx hb dX7_goes_162 rfl (fun c4 => ?_) (fun c4 => ?_)
      · replace hq := lf_pos hq (lf_eq Ez3 (lf_lc 0 (0 : Int) rfl) c4)
        have h5 := ib_eq (ib_any z3) (ib_c 0 0 0 rfl) c4
        have h6 : ib z3 0 0 := ib_w 0 0 h5.1 rfl
        refine lv_iconst (v := 0) hx hb dX7_goes_169 rfl ?_
        subst hQ; exact k_iret hx hb hr hlk (k_nb 0 rfl) ((J150_a1, J150_a4, J150_a13)) hS ⟨ib_w 0 1 (ib_c 0 0 0 rfl) rfl, (hO.symm.trans (by try simp only [show (0 : Int32).toInt = (0 : Int) from rfl]; exact hq))⟩ hP hD (Nat.le_of_ble_eq_true rfl) (Nat.le_of_ble_eq_true rfl) dX7_goes_170
      · replace hq := lf_neg hq (lf_ne Ez3 (lf_lc 0 (0 : Int) rfl) c4)
        refine lv_iconst (v := 1) hx hb dX7_goes_165 rfl ?_
        refine lv_goto (tgt := 170) hx hb dX7_goes_166 rfl ?_
        subst hQ; exact k_iret hx hb hr hlk (k_nb 1 rfl) ((J150_a1, J150_a4, J150_a13)) hS ⟨ib_w 0 1 (ib_c 1 1 1 rfl) rfl, (hO.symm.trans (by try simp only [show (1 : Int32).toInt = (1 : Int) from rfl]; exact hq))⟩ hP hD (Nat.le_of_ble_eq_true rfl) (Nat.le_of_ble_eq_true rfl) dX7_goes_170
  have jn23 : ∀ (J23_l4 : Int32) (J23_s0 : Int32) (H : Heap) (locs : List Loc) (ls : Array Slot), ib J23_l4 0 3599 → (O = F_X7_goes_23 (lf_A g_this_machine_facts) (lf_A g_this_machine_stack) (lf_A g_this_plan_calm) (lf_A g_this_plan_pace) (lf_A g_this_plan_kindOf) (lf_A g_this_plan_comesAt) (lf_A g_this_plan_code) (lf_A g_this_plan_spans) (Int32.toInt x_this_day) (lf_A g_this_trusts) (lf_A g_this_gaps) (lf_A g_this_known) (Int32.toInt p0) (Int32.toInt p1) (Int32.toInt p2) (Int32.toInt J23_l4) (Int32.toInt J23_s0)) → va_P (dC, dI) vwCl [(wo_7_rririiiirrrrriiii a_this a_this_machine a_this_plan x_this_day a_this_trusts x_this_rule x_this_green x_this_absent x_this_asksReds a_this_cars a_this_gaps a_this_known a_this_left a_this_leaves x_this_pressed x_this_crossed x_this_went x_this_harmed), (wi_0_3600_0 a_this_known cy g_this_known), (wo_3_rr a_this_machine a_this_machine_facts a_this_machine_stack), (wi_0_320_0 a_this_gaps cy g_this_gaps), (wi_0_13_0 a_this_machine_facts cy g_this_machine_facts), (wo_4_iiiiiiirrrirrrrrir a_this_plan x_this_plan_cycle x_this_plan_green x_this_plan_rule x_this_plan_least x_this_plan_away x_this_plan_statements x_this_plan_kinds a_this_plan_calm a_this_plan_pace a_this_plan_trusts x_this_plan_walkers a_this_plan_kindOf a_this_plan_comesAt a_this_plan_comers a_this_plan_names a_this_plan_code x_this_plan_size a_this_plan_spans), (wi_0_12_0 a_this_plan_comesAt cy g_this_plan_comesAt), (wi_0_12_0 a_this_plan_kindOf cy g_this_plan_kindOf), (wi_0_6_0 a_this_trusts cy g_this_trusts), (wi_0_6_0 a_this_plan_calm cy g_this_plan_calm), (wi_0_6_0 a_this_plan_pace cy g_this_plan_pace), (wi_0_6_0 a_this_plan_spans cy g_this_plan_spans), (wi_0_1600_0 a_this_plan_code cy g_this_plan_code), (wi_0_64_0 a_this_machine_stack cy g_this_machine_stack)] H → va_D A [(wo_7_rririiiirrrrriiii a_this a_this_machine a_this_plan x_this_day a_this_trusts x_this_rule x_this_green x_this_absent x_this_asksReds a_this_cars a_this_gaps a_this_known a_this_left a_this_leaves x_this_pressed x_this_crossed x_this_went x_this_harmed), (wi_0_3600_0 a_this_known cy g_this_known), (wo_3_rr a_this_machine a_this_machine_facts a_this_machine_stack), (wi_0_320_0 a_this_gaps cy g_this_gaps), (wi_0_13_0 a_this_machine_facts cy g_this_machine_facts), (wo_4_iiiiiiirrrirrrrrir a_this_plan x_this_plan_cycle x_this_plan_green x_this_plan_rule x_this_plan_least x_this_plan_away x_this_plan_statements x_this_plan_kinds a_this_plan_calm a_this_plan_pace a_this_plan_trusts x_this_plan_walkers a_this_plan_kindOf a_this_plan_comesAt a_this_plan_comers a_this_plan_names a_this_plan_code x_this_plan_size a_this_plan_spans), (wi_0_12_0 a_this_plan_comesAt cy g_this_plan_comesAt), (wi_0_12_0 a_this_plan_kindOf cy g_this_plan_kindOf), (wi_0_6_0 a_this_trusts cy g_this_trusts), (wi_0_6_0 a_this_plan_calm cy g_this_plan_calm), (wi_0_6_0 a_this_plan_pace cy g_this_plan_pace), (wi_0_6_0 a_this_plan_spans cy g_this_plan_spans), (wi_0_1600_0 a_this_plan_code cy g_this_plan_code), (wi_0_64_0 a_this_machine_stack cy g_this_machine_stack)] → va_S A s.heap H locs → lv_has ls 8 [(0, .ref a_this), (1, .int p0), (2, .int p1), (3, .int p2), (4, .int J23_l4)] → W p l e { frames := 3, cells := 0, slots := 0, locals := 70 } s m args below meth c H locs 0 0 Q (F0 m 23 ls [.int J23_s0]) := by
    as_aux_lemma =>
      intro J23_l4 J23_s0 H locs ls hJ23_l4 hq hP hD hS hl
      unfold F_X7_goes_23 at hq
      refine lv_istore (lv' := [(5, .int J23_s0), (0, .ref a_this), (1, .int p0), (2, .int p1), (3, .int p2), (4, .int J23_l4)]) hx hb dX7_goes_23 hl (Nat.le_of_ble_eq_true rfl) rfl (fun ls hl => ?_)
      refine lv_aload_n hx hb dX7_goes_25 rfl (lv_at hl 1 rfl) ?_
      refine k_get C0 fg_X7_38 hP 0 rfl rfl dX7_goes_26 ?_
      refine lv_iload hx hb dX7_goes_29 (lv_at hl 5 rfl) ?_
      refine va_iald hx hb C0.2.2.2.2.2.1 hP 1 0 rfl rfl (ib_in 3600 hJ23_l4 rfl) dX7_goes_31 ?_
      refine lv_topi (fun z7 ez7 => ?_)
      have Ez7 := lf_ld ez7 (lf_ra g_this_known) (lf_rf J23_l4)
      refine lv_iload hx hb dX7_goes_32 (lv_at hl 0 rfl) ?_
      refine lv_ishr hx hb dX7_goes_34 ?_
      refine lv_topi (fun z8 ez8 => ?_)
      have Ez8 := lf_op lf_ishr ez8 Ez7 (lf_rf J23_s0)
      refine lv_iconst (v := 1) hx hb dX7_goes_35 rfl ?_
      refine lv_iand hx hb dX7_goes_36 ?_
      refine lv_topi (fun z9 ez9 => ?_)
      have h10 : ib z9 0 1 := by rw [ez9]; exact ib_and 1 (by decide) (by decide) 1 (by decide)
      have Ez9 := lf_op lf_iand ez9 Ez8 (lf_lc 1 (1 : Int) rfl)
      refine lv_if_ne (tgt := 150) hx hb dX7_goes_37 rfl (fun c11 => ?_) (fun c11 => ?_)
      · replace hq := lf_neg hq (lf_ne Ez9 (lf_lc 0 (0 : Int) rfl) c11)
        have h12 : ib z9 1 1 := ib_w 1 1 (ib_ne_lo 0 h10 rfl c11) rfl
        exact jn150 J23_l4 J23_s0 g_this_known g_this_machine_facts g_this_machine_stack H locs ls (ib_w 0 3599 hJ23_l4 rfl) (by exact hq) hP hD hS (lv_sub hl [1, 2, 3, 4, 5, 0] rfl)
      · as_aux_lemma =>
          replace hq := lf_pos hq (lf_eq Ez9 (lf_lc 0 (0 : Int) rfl) c11)
          have h13 := ib_eq h10 (ib_c 0 0 0 rfl) c11
          have h14 : ib z9 0 0 := ib_w 0 0 h13.1 rfl
          refine lv_aload_n hx hb dX7_goes_40 rfl (lv_at hl 1 rfl) ?_
          refine k_get C0 fg_X7_59 hP 0 rfl rfl dX7_goes_41 ?_
          refine k_get C0 fg_X7_102 hP 2 rfl rfl dX7_goes_44 ?_
          refine lv_astore (lv' := [(6, .ref a_this_machine_facts), (5, .int J23_s0), (0, .ref a_this), (1, .int p0), (2, .int p1), (3, .int p2), (4, .int J23_l4)]) hx hb dX7_goes_47 hl (Nat.le_of_ble_eq_true rfl) rfl (fun ls hl => ?_)
          refine lv_aload hx hb dX7_goes_49 (lv_at hl 0 rfl) ?_
          refine lv_bipush (v := 7) hx hb dX7_goes_51 rfl ?_
          refine lv_aload_n hx hb dX7_goes_53 rfl (lv_at hl 2 rfl) ?_
          refine k_get C0 fg_X7_35 hP 0 rfl rfl dX7_goes_54 ?_
          refine lv_iload_n hx hb dX7_goes_57 rfl (lv_at hl 4 rfl) ?_
          refine va_iald hx hb C0.2.2.2.2.2.1 hP 3 0 rfl rfl (ib_in 320 hp1 rfl) dX7_goes_58 ?_
          refine lv_topi (fun z15 ez15 => ?_)
          have Ez15 := lf_ld ez15 (lf_ra g_this_gaps) (lf_rf p1)
          refine va_iast hx hb C0.2.2.2.2.2.1 hP hD hS 4 0 rfl rfl (k_in 7 13 rfl) dX7_goes_59 (fun H locs hP hD hS => ?_)
          replace hP : va_P (dC, dI) vwCl [(wo_7_rririiiirrrrriiii a_this a_this_machine a_this_plan x_this_day a_this_trusts x_this_rule x_this_green x_this_absent x_this_asksReds a_this_cars a_this_gaps a_this_known a_this_left a_this_leaves x_this_pressed x_this_crossed x_this_went x_this_harmed), (wi_0_3600_0 a_this_known cy g_this_known), (wo_3_rr a_this_machine a_this_machine_facts a_this_machine_stack), (wi_0_320_0 a_this_gaps cy g_this_gaps), (wi_0_13_0 a_this_machine_facts cy (upd g_this_machine_facts (Int32.toNatClampNeg 7) z15)), (wo_4_iiiiiiirrrirrrrrir a_this_plan x_this_plan_cycle x_this_plan_green x_this_plan_rule x_this_plan_least x_this_plan_away x_this_plan_statements x_this_plan_kinds a_this_plan_calm a_this_plan_pace a_this_plan_trusts x_this_plan_walkers a_this_plan_kindOf a_this_plan_comesAt a_this_plan_comers a_this_plan_names a_this_plan_code x_this_plan_size a_this_plan_spans), (wi_0_12_0 a_this_plan_comesAt cy g_this_plan_comesAt), (wi_0_12_0 a_this_plan_kindOf cy g_this_plan_kindOf), (wi_0_6_0 a_this_trusts cy g_this_trusts), (wi_0_6_0 a_this_plan_calm cy g_this_plan_calm), (wi_0_6_0 a_this_plan_pace cy g_this_plan_pace), (wi_0_6_0 a_this_plan_spans cy g_this_plan_spans), (wi_0_1600_0 a_this_plan_code cy g_this_plan_code), (wi_0_64_0 a_this_machine_stack cy g_this_machine_stack)] H := hP
          replace hD := k_D hP hD
          generalize ef16 : upd g_this_machine_facts (Int32.toNatClampNeg 7) z15 = f16 at hP hD
          have Ef16 := lf_st ef16 (lf_ra g_this_machine_facts) (lf_lc 7 (7 : Int) rfl) Ez15
          refine lv_aload hx hb dX7_goes_60 (lv_at hl 0 rfl) ?_
          refine lv_bipush (v := 8) hx hb dX7_goes_62 rfl ?_
          refine lv_iload_n hx hb dX7_goes_64 rfl (lv_at hl 5 rfl) ?_
          refine va_iast hx hb C0.2.2.2.2.2.1 hP hD hS 4 0 rfl rfl (k_in 8 13 rfl) dX7_goes_65 (fun H locs hP hD hS => ?_)
          replace hP : va_P (dC, dI) vwCl [(wo_7_rririiiirrrrriiii a_this a_this_machine a_this_plan x_this_day a_this_trusts x_this_rule x_this_green x_this_absent x_this_asksReds a_this_cars a_this_gaps a_this_known a_this_left a_this_leaves x_this_pressed x_this_crossed x_this_went x_this_harmed), (wi_0_3600_0 a_this_known cy g_this_known), (wo_3_rr a_this_machine a_this_machine_facts a_this_machine_stack), (wi_0_320_0 a_this_gaps cy g_this_gaps), (wi_0_13_0 a_this_machine_facts cy (upd f16 (Int32.toNatClampNeg 8) p2)), (wo_4_iiiiiiirrrirrrrrir a_this_plan x_this_plan_cycle x_this_plan_green x_this_plan_rule x_this_plan_least x_this_plan_away x_this_plan_statements x_this_plan_kinds a_this_plan_calm a_this_plan_pace a_this_plan_trusts x_this_plan_walkers a_this_plan_kindOf a_this_plan_comesAt a_this_plan_comers a_this_plan_names a_this_plan_code x_this_plan_size a_this_plan_spans), (wi_0_12_0 a_this_plan_comesAt cy g_this_plan_comesAt), (wi_0_12_0 a_this_plan_kindOf cy g_this_plan_kindOf), (wi_0_6_0 a_this_trusts cy g_this_trusts), (wi_0_6_0 a_this_plan_calm cy g_this_plan_calm), (wi_0_6_0 a_this_plan_pace cy g_this_plan_pace), (wi_0_6_0 a_this_plan_spans cy g_this_plan_spans), (wi_0_1600_0 a_this_plan_code cy g_this_plan_code), (wi_0_64_0 a_this_machine_stack cy g_this_machine_stack)] H := hP
          replace hD := k_D hP hD
          generalize ef17 : upd f16 (Int32.toNatClampNeg 8) p2 = f17 at hP hD
          have Ef17 := lf_st ef17 Ef16 (lf_lc 8 (8 : Int) rfl) (lf_rf p2)
          refine lv_aload_n hx hb dX7_goes_66 rfl (lv_at hl 2 rfl) ?_
          refine lv_iload_n hx hb dX7_goes_67 rfl (lv_at hl 3 rfl) ?_
          as_aux_lemma =>
            refine lv_iload_n hx hb dX7_goes_68 rfl (lv_at hl 4 rfl) ?_
            refine lv_iload_n hx hb dX7_goes_69 rfl (lv_at hl 4 rfl) ?_
            refine lv_aload_n hx hb dX7_goes_70 rfl (lv_at hl 2 rfl) ?_
            refine k_get C0 fg_X7_63 hP 0 rfl rfl dX7_goes_71 ?_
            refine k_get C0 fg_X7_153 hP 5 rfl rfl dX7_goes_74 ?_
            refine lv_iload_n hx hb dX7_goes_77 rfl (lv_at hl 3 rfl) ?_
            refine va_iald hx hb C0.2.2.2.2.2.1 hP 6 0 rfl rfl (ib_in 12 hp0 rfl) dX7_goes_78 ?_
            refine lv_topi (fun z18 ez18 => ?_)
            have h19 : ib z18 0 199 := by rw [ez18]; exact ia_at hg_this_plan_comesAt (ib_in 12 hp0 rfl)
            have Ez18 := lf_ld ez18 (lf_ra g_this_plan_comesAt) (lf_rf p0)
            refine lv_isub hx hb dX7_goes_79 ?_
            refine lv_topi (fun z20 ez20 => ?_)
            have h21 := ib_sub hp1 h19 rfl
            rw [← ez20] at h21
            have h22 : ib z20 (-199) 299 := ib_w (-199) 299 h21.1 rfl
            have Ez20 := lf_sub h21.2 (lf_rf p1) Ez18
            refine lv_aload_n hx hb dX7_goes_80 rfl (lv_at hl 2 rfl) ?_
            refine k_get C0 fg_X7_15 hP 0 rfl rfl dX7_goes_81 ?_
            refine lv_aload_n hx hb dX7_goes_84 rfl (lv_at hl 2 rfl) ?_
            refine k_get C0 fg_X7_63 hP 0 rfl rfl dX7_goes_85 ?_
            refine k_get C0 fg_X7_140 hP 5 rfl rfl dX7_goes_88 ?_
            refine lv_iload_n hx hb dX7_goes_91 rfl (lv_at hl 3 rfl) ?_
            refine va_iald hx hb C0.2.2.2.2.2.1 hP 7 0 rfl rfl (ib_in 12 hp0 rfl) dX7_goes_92 ?_
            refine lv_topi (fun z23 ez23 => ?_)
            have h24 : ib z23 0 5 := by rw [ez23]; exact ia_at hg_this_plan_kindOf (ib_in 12 hp0 rfl)
            have Ez23 := lf_ld ez23 (lf_ra g_this_plan_kindOf) (lf_rf p0)
            refine va_iald hx hb C0.2.2.2.2.2.1 hP 8 0 rfl rfl (ib_in 6 h24 rfl) dX7_goes_93 ?_
            refine lv_topi (fun z25 ez25 => ?_)
            have Ez25 := lf_ld ez25 (lf_ra g_this_trusts) Ez23
            refine k_jvm hP hD hS hA [0, 5, 7, 2, 4, 9, 10] [false, true, false, true, false, false, true, false, true, false, false, true, true, true] rfl rfl (by decide +kernel) 0 0 (Nat.le_of_ble_eq_true rfl) (Nat.le_of_ble_eq_true rfl) (fun hPc hDc => k_runV (As := [.int p0, .int p1, .int z20, .int z25]) (rest := []) C0 hZ hS hA (s_X7_describe l dC dI cy sq a_this a_this_machine a_this_machine_facts f17 a_this_machine_stack a_this_plan x_this_plan_cycle x_this_plan_green x_this_plan_rule x_this_plan_least x_this_plan_away x_this_plan_statements x_this_plan_kinds a_this_plan_calm g_this_plan_calm a_this_plan_pace g_this_plan_pace a_this_plan_trusts x_this_plan_walkers a_this_plan_kindOf g_this_plan_kindOf a_this_plan_comesAt a_this_plan_comers a_this_plan_names a_this_plan_code x_this_plan_size a_this_plan_spans x_this_day a_this_trusts x_this_rule x_this_green x_this_absent x_this_asksReds a_this_cars a_this_gaps a_this_known a_this_left a_this_leaves x_this_pressed x_this_crossed x_this_went x_this_harmed p0 p1 z20 z25 hg_this_plan_kindOf (ib_w 0 11 hp0 rfl)) mV_X7_156 hPc hDc rfl rfl rfl hl rfl rfl (Nat.le_of_ble_eq_true rfl) ⟨(Nat.le_of_ble_eq_true rfl), (Nat.le_of_ble_eq_true rfl)⟩ ⟨(Nat.le_of_ble_eq_true rfl), (Nat.le_of_ble_eq_true rfl)⟩ dX7_goes_94) (fun u27 H locs hw hP hD hS => ?_)
            as_aux_lemma =>
              obtain ⟨f28, ef28⟩ : ∃ z, z = u27 := ⟨_, rfl⟩; subst ef28
              try dsimp only at hP hD hw
              replace hP : va_P (dC, dI) vwCl [(wi_0_3600_0 a_this_known cy g_this_known), (wi_0_320_0 a_this_gaps cy g_this_gaps), (wi_0_12_0 a_this_plan_comesAt cy g_this_plan_comesAt), (wi_0_6_0 a_this_trusts cy g_this_trusts), (wi_0_6_0 a_this_plan_spans cy g_this_plan_spans), (wi_0_1600_0 a_this_plan_code cy g_this_plan_code), (wi_0_64_0 a_this_machine_stack cy g_this_machine_stack), (wo_7_rririiiirrrrriiii a_this a_this_machine a_this_plan x_this_day a_this_trusts x_this_rule x_this_green x_this_absent x_this_asksReds a_this_cars a_this_gaps a_this_known a_this_left a_this_leaves x_this_pressed x_this_crossed x_this_went x_this_harmed), (wo_4_iiiiiiirrrirrrrrir a_this_plan x_this_plan_cycle x_this_plan_green x_this_plan_rule x_this_plan_least x_this_plan_away x_this_plan_statements x_this_plan_kinds a_this_plan_calm a_this_plan_pace a_this_plan_trusts x_this_plan_walkers a_this_plan_kindOf a_this_plan_comesAt a_this_plan_comers a_this_plan_names a_this_plan_code x_this_plan_size a_this_plan_spans), (wi_0_12_0 a_this_plan_kindOf cy g_this_plan_kindOf), (wo_3_rr a_this_machine a_this_machine_facts a_this_machine_stack), (wi_0_13_0 a_this_machine_facts cy f28), (wi_0_6_0 a_this_plan_calm cy g_this_plan_calm), (wi_0_6_0 a_this_plan_pace cy g_this_plan_pace)] H := hP
              replace hD := k_D hP hD
              have h29 := hw
              have h29 := by have h9 := h29; rw [lf_ua Ef17] at h9; rw [lf_u Ez20] at h9; rw [lf_u Ez25] at h9; exact h9
              replace hq := lf_b1 hq h29
              refine lv_aload_n hx hb dX7_goes_97 rfl (lv_at hl 2 rfl) ?_
              refine k_get C0 fg_X7_59 hP 7 rfl rfl dX7_goes_98 ?_
              refine lv_aload_n hx hb dX7_goes_101 rfl (lv_at hl 2 rfl) ?_
              refine k_get C0 fg_X7_63 hP 7 rfl rfl dX7_goes_102 ?_
              refine k_get C0 fg_X7_107 hP 8 rfl rfl dX7_goes_105 ?_
              refine lv_aload_n hx hb dX7_goes_108 rfl (lv_at hl 2 rfl) ?_
              refine k_get C0 fg_X7_63 hP 7 rfl rfl dX7_goes_109 ?_
              refine k_get C0 fg_X7_110 hP 8 rfl rfl dX7_goes_112 ?_
              refine lv_iconst (v := 2) hx hb dX7_goes_115 rfl ?_
              refine va_iald hx hb C0.2.2.2.2.2.1 hP 4 0 rfl rfl (k_in 2 6 rfl) dX7_goes_116 ?_
              refine lv_topi (fun z30 ez30 => ?_)
              have h31 : ib z30 0 1600 := by rw [ez30]; exact ia_at hg_this_plan_spans (k_in 2 6 rfl)
              have Ez30 := lf_ld ez30 (lf_ra g_this_plan_spans) (lf_lc 2 (2 : Int) rfl)
              refine lv_aload_n hx hb dX7_goes_117 rfl (lv_at hl 2 rfl) ?_
              refine k_get C0 fg_X7_63 hP 7 rfl rfl dX7_goes_118 ?_
              refine k_get C0 fg_X7_110 hP 8 rfl rfl dX7_goes_121 ?_
              refine lv_iconst (v := 3) hx hb dX7_goes_124 rfl ?_
              refine va_iald hx hb C0.2.2.2.2.2.1 hP 4 0 rfl rfl (k_in 3 6 rfl) dX7_goes_125 ?_
              refine lv_topi (fun z32 ez32 => ?_)
              have h33 : ib z32 0 1600 := by rw [ez32]; exact ia_at hg_this_plan_spans (k_in 3 6 rfl)
              have Ez32 := lf_ld ez32 (lf_ra g_this_plan_spans) (lf_lc 3 (3 : Int) rfl)
              refine k_jim hP hD hS hA [10, 5, 11, 6] [true, true, true, true, true, false, false, true, true, true, false, false, true, true] rfl rfl (by decide +kernel) 0 0 (Nat.le_of_ble_eq_true rfl) (Nat.le_of_ble_eq_true rfl) (fun hPc hDc => k_runV (As := [.ref a_this_plan_code, .int z30, .int z32]) (rest := []) C0 hZ hS hA (s_X3_value l dC dI cy sq a_this_machine a_this_machine_facts f28 a_this_machine_stack g_this_machine_stack a_this_plan_code g_this_plan_code z30 z32 (ib_w 0 1600 h31 rfl)) mV_X7_113 hPc hDc rfl rfl rfl hl rfl rfl (Nat.le_of_ble_eq_true rfl) ⟨(Nat.le_of_ble_eq_true rfl), (Nat.le_of_ble_eq_true rfl)⟩ ⟨(Nat.le_of_ble_eq_true rfl), (Nat.le_of_ble_eq_true rfl)⟩ dX7_goes_126) (fun r34 u35 H locs hw hP hD hS => ?_)
              obtain ⟨f36, ef36⟩ : ∃ z, z = u35 := ⟨_, rfl⟩; subst ef36
              as_aux_lemma =>
                try dsimp only at hP hD hw
                replace hP : va_P (dC, dI) vwCl [(wi_0_3600_0 a_this_known cy g_this_known), (wi_0_320_0 a_this_gaps cy g_this_gaps), (wi_0_12_0 a_this_plan_comesAt cy g_this_plan_comesAt), (wi_0_6_0 a_this_trusts cy g_this_trusts), (wi_0_6_0 a_this_plan_spans cy g_this_plan_spans), (wo_7_rririiiirrrrriiii a_this a_this_machine a_this_plan x_this_day a_this_trusts x_this_rule x_this_green x_this_absent x_this_asksReds a_this_cars a_this_gaps a_this_known a_this_left a_this_leaves x_this_pressed x_this_crossed x_this_went x_this_harmed), (wo_4_iiiiiiirrrirrrrrir a_this_plan x_this_plan_cycle x_this_plan_green x_this_plan_rule x_this_plan_least x_this_plan_away x_this_plan_statements x_this_plan_kinds a_this_plan_calm a_this_plan_pace a_this_plan_trusts x_this_plan_walkers a_this_plan_kindOf a_this_plan_comesAt a_this_plan_comers a_this_plan_names a_this_plan_code x_this_plan_size a_this_plan_spans), (wi_0_12_0 a_this_plan_kindOf cy g_this_plan_kindOf), (wi_0_6_0 a_this_plan_calm cy g_this_plan_calm), (wi_0_6_0 a_this_plan_pace cy g_this_plan_pace), (wo_3_rr a_this_machine a_this_machine_facts a_this_machine_stack), (wi_0_1600_0 a_this_plan_code cy g_this_plan_code), (wi_0_13_0 a_this_machine_facts cy f28), (wi_0_64_0 a_this_machine_stack cy f36)] H := hP
                replace hD := k_D hP hD
                have h37 := hw
                have h37 := by have h9 := h37; rw [lf_u Ez30] at h9; rw [lf_u Ez32] at h9; exact h9
                replace hq := lf_p1 hq h37
                refine lv_istore (lv' := [(7, .int r34), (6, .ref a_this_machine_facts), (5, .int J23_s0), (0, .ref a_this), (1, .int p0), (2, .int p1), (3, .int p2), (4, .int J23_l4)]) hx hb dX7_goes_129 hl (Nat.le_of_ble_eq_true rfl) rfl (fun ls hl => ?_)
                refine lv_aload_n hx hb dX7_goes_131 rfl (lv_at hl 3 rfl) ?_
                refine k_get C0 fg_X7_38 hP 5 rfl rfl dX7_goes_132 ?_
                refine lv_iload hx hb dX7_goes_135 (lv_at hl 7 rfl) ?_
                refine lv_dup2_11 hx hb dX7_goes_137 rfl rfl ?_
                refine va_iald hx hb C0.2.2.2.2.2.1 hP 0 0 rfl rfl (ib_in 3600 hJ23_l4 rfl) dX7_goes_138 ?_
                refine lv_topi (fun z38 ez38 => ?_)
                have Ez38 := lf_ld ez38 (lf_ra g_this_known) (lf_rf J23_l4)
                refine lv_iconst (v := 1) hx hb dX7_goes_139 rfl ?_
                refine lv_iload hx hb dX7_goes_140 (lv_at hl 0 rfl) ?_
                refine lv_iconst (v := 1) hx hb dX7_goes_142 rfl ?_
                refine lv_ishl hx hb dX7_goes_143 ?_
                refine lv_topi (fun z39 ez39 => ?_)
                have Ez39 := lf_op lf_ishl ez39 (lf_rf r34) (lf_lc 1 (1 : Int) rfl)
                refine lv_ior hx hb dX7_goes_144 ?_
                refine lv_topi (fun z40 ez40 => ?_)
                have Ez40 := lf_op lf_ior ez40 (lf_lc 1 (1 : Int) rfl) Ez39
                refine lv_iload hx hb dX7_goes_145 (lv_at hl 2 rfl) ?_
                refine lv_ishl hx hb dX7_goes_147 ?_
                refine lv_topi (fun z41 ez41 => ?_)
                have Ez41 := lf_op lf_ishl ez41 Ez40 (lf_rf J23_s0)
                refine lv_ior hx hb dX7_goes_148 ?_
                refine lv_topi (fun z42 ez42 => ?_)
                have Ez42 := lf_op lf_ior ez42 Ez38 Ez41
                refine va_iast hx hb C0.2.2.2.2.2.1 hP hD hS 0 0 rfl rfl (ib_in 3600 hJ23_l4 rfl) dX7_goes_149 (fun H locs hP hD hS => ?_)
                replace hP : va_P (dC, dI) vwCl [(wi_0_3600_0 a_this_known cy (upd g_this_known (Int32.toNatClampNeg J23_l4) z42)), (wi_0_320_0 a_this_gaps cy g_this_gaps), (wi_0_12_0 a_this_plan_comesAt cy g_this_plan_comesAt), (wi_0_6_0 a_this_trusts cy g_this_trusts), (wi_0_6_0 a_this_plan_spans cy g_this_plan_spans), (wo_7_rririiiirrrrriiii a_this a_this_machine a_this_plan x_this_day a_this_trusts x_this_rule x_this_green x_this_absent x_this_asksReds a_this_cars a_this_gaps a_this_known a_this_left a_this_leaves x_this_pressed x_this_crossed x_this_went x_this_harmed), (wo_4_iiiiiiirrrirrrrrir a_this_plan x_this_plan_cycle x_this_plan_green x_this_plan_rule x_this_plan_least x_this_plan_away x_this_plan_statements x_this_plan_kinds a_this_plan_calm a_this_plan_pace a_this_plan_trusts x_this_plan_walkers a_this_plan_kindOf a_this_plan_comesAt a_this_plan_comers a_this_plan_names a_this_plan_code x_this_plan_size a_this_plan_spans), (wi_0_12_0 a_this_plan_kindOf cy g_this_plan_kindOf), (wi_0_6_0 a_this_plan_calm cy g_this_plan_calm), (wi_0_6_0 a_this_plan_pace cy g_this_plan_pace), (wo_3_rr a_this_machine a_this_machine_facts a_this_machine_stack), (wi_0_1600_0 a_this_plan_code cy g_this_plan_code), (wi_0_13_0 a_this_machine_facts cy f28), (wi_0_64_0 a_this_machine_stack cy f36)] H := hP
                replace hD := k_D hP hD
                generalize ef43 : upd g_this_known (Int32.toNatClampNeg J23_l4) z42 = f43 at hP hD
                have Ef43 := lf_st ef43 (lf_ra g_this_known) (lf_rf J23_l4) Ez42
                exact jn150 J23_l4 J23_s0 f43 f28 f36 H locs ls (ib_w 0 3599 hJ23_l4 rfl) (by rw [lf_ua Ef43]; exact hq) (hP.sub [5, 0, 10, 1, 12, 6, 2, 7, 3, 8, 9, 4, 11, 13] rfl) (hD.sub [5, 0, 10, 1, 12, 6, 2, 7, 3, 8, 9, 4, 11, 13] (by decide +kernel) rfl) hS (lv_sub hl [3, 4, 5, 6, 7, 2] rfl)
  refine lv_iload_n hx hb dX7_goes_0 rfl (lv_at hl 1 rfl) ?_
  refine lv_sipush (v := 300) hx hb dX7_goes_1 rfl ?_
  refine lv_imul hx hb dX7_goes_4 ?_
  refine lv_topi (fun z44 ez44 => ?_)
  have h45 := ib_mul hp0 (ib_c 300 300 300 rfl) rfl
  rw [← ez44] at h45
  have h46 : ib z44 0 3300 := ib_w 0 3300 h45.1 rfl
  have Ez44 := lf_mul h45.2 (lf_rf p0) (lf_lc 300 (300 : Int) rfl)
  refine lv_iload_n hx hb dX7_goes_5 rfl (lv_at hl 2 rfl) ?_
  refine lv_iadd hx hb dX7_goes_6 ?_
  refine lv_topi (fun z47 ez47 => ?_)
  have h48 := ib_add h46 hp1 rfl
  rw [← ez47] at h48
  have h49 : ib z47 0 3599 := ib_w 0 3599 h48.1 rfl
  have Ez47 := lf_add h48.2 Ez44 (lf_rf p1)
  refine lv_istore (lv' := [(4, .int z47), (0, .ref a_this), (1, .int p0), (2, .int p1), (3, .int p2)]) hx hb dX7_goes_7 hl (Nat.le_of_ble_eq_true rfl) rfl (fun ls hl => ?_)
  refine lv_aload_n hx hb dX7_goes_9 rfl (lv_at hl 1 rfl) ?_
  refine k_get C0 fg_X7_28 hP 0 rfl rfl dX7_goes_10 ?_
  refine lv_if_eq (tgt := 22) hx hb dX7_goes_13 rfl (fun c50 => ?_) (fun c50 => ?_)
  · replace hq := lf_pos hq (lf_eq (lf_rf x_this_asksReds) (lf_lc 0 (0 : Int) rfl) c50)
    have h51 := ib_eq hx_this_asksReds (ib_c 0 0 0 rfl) c50
    have h52 : ib x_this_asksReds 0 0 := ib_w 0 0 h51.1 rfl
    refine lv_iconst (v := 0) hx hb dX7_goes_22 rfl ?_
    exact jn23 z47 0 H locs ls (ib_w 0 3599 h49 rfl) (by rw [lf_u Ez47]; try simp only [show (0 : Int32).toInt = (0 : Int) from rfl]; exact hq) hP hD hS (lv_sub hl [1, 2, 3, 4, 0] rfl)
  · replace hq := lf_neg hq (lf_ne (lf_rf x_this_asksReds) (lf_lc 0 (0 : Int) rfl) c50)
    have h53 : ib x_this_asksReds 1 1 := ib_w 1 1 (ib_ne_lo 0 hx_this_asksReds rfl c50) rfl
    refine lv_iconst (v := 2) hx hb dX7_goes_16 rfl ?_
    refine lv_iload_n hx hb dX7_goes_17 rfl (lv_at hl 4 rfl) ?_
    refine lv_imul hx hb dX7_goes_18 ?_
    refine lv_topi (fun z54 ez54 => ?_)
    have Ez54 := lf_op lf_imul ez54 (lf_lc 2 (2 : Int) rfl) (lf_rf p2)
    refine lv_goto (tgt := 23) hx hb dX7_goes_19 rfl ?_
    exact jn23 z47 z54 H locs ls (ib_w 0 3599 h49 rfl) (by rw [lf_u Ez47]; rw [lf_u Ez54]; exact hq) hP hD hS (lv_sub hl [1, 2, 3, 4, 0] rfl)
set_option maxHeartbeats 4000000 in
set_option maxRecDepth 100000 in
theorem s_X7_walk (l : Launch) (dC : Nat → ClassId) (dI : Nat → Nat → Nat) (cy : Nat → ClassId) (sq : Nat → Nat) (a_this : Nat) (a_this_machine : Nat) (a_this_machine_facts : Nat) (g_this_machine_facts : Nat → Int32) (a_this_machine_stack : Nat) (g_this_machine_stack : Nat → Int32) (a_this_plan : Nat) (x_this_plan_cycle : Int32) (x_this_plan_green : Int32) (x_this_plan_rule : Int32) (x_this_plan_least : Int32) (x_this_plan_away : Int32) (x_this_plan_statements : Int32) (x_this_plan_kinds : Int32) (a_this_plan_calm : Nat) (g_this_plan_calm : Nat → Int32) (a_this_plan_pace : Nat) (g_this_plan_pace : Nat → Int32) (a_this_plan_trusts : Nat) (x_this_plan_walkers : Int32) (a_this_plan_kindOf : Nat) (g_this_plan_kindOf : Nat → Int32) (a_this_plan_comesAt : Nat) (g_this_plan_comesAt : Nat → Int32) (a_this_plan_comers : Nat) (g_this_plan_comers : Nat → Int32) (a_this_plan_names : Nat) (a_this_plan_code : Nat) (g_this_plan_code : Nat → Int32) (x_this_plan_size : Int32) (a_this_plan_spans : Nat) (g_this_plan_spans : Nat → Int32) (x_this_day : Int32) (a_this_trusts : Nat) (g_this_trusts : Nat → Int32) (x_this_rule : Int32) (x_this_green : Int32) (x_this_absent : Int32) (x_this_asksReds : Int32) (a_this_cars : Nat) (a_this_gaps : Nat) (g_this_gaps : Nat → Int32) (a_this_known : Nat) (g_this_known : Nat → Int32) (a_this_left : Nat) (g_this_left : Nat → Int32) (a_this_leaves : Nat) (g_this_leaves : Nat → Int32) (x_this_pressed : Int32) (x_this_crossed : Int32) (x_this_went : Int32) (x_this_harmed : Int32) (hx_this_plan_walkers : ib x_this_plan_walkers 0 12) (hg_this_plan_kindOf : ia g_this_plan_kindOf 12 0 5) (hg_this_plan_comesAt : ia g_this_plan_comesAt 12 0 199) (hg_this_plan_spans : ia g_this_plan_spans 6 0 1600) (hx_this_asksReds : ib x_this_asksReds 0 1) : k_Met l yX7_walk cX7_walk 9 none { frames := 4, cells := 0, slots := 0, locals := 97 } dC dI cy sq [.ref a_this] [(wo_7_rririiiirrrrriiii a_this a_this_machine a_this_plan x_this_day a_this_trusts x_this_rule x_this_green x_this_absent x_this_asksReds a_this_cars a_this_gaps a_this_known a_this_left a_this_leaves x_this_pressed x_this_crossed x_this_went x_this_harmed), (wi_0_12_0 a_this_leaves cy g_this_leaves), (wo_4_iiiiiiirrrirrrrrir a_this_plan x_this_plan_cycle x_this_plan_green x_this_plan_rule x_this_plan_least x_this_plan_away x_this_plan_statements x_this_plan_kinds a_this_plan_calm a_this_plan_pace a_this_plan_trusts x_this_plan_walkers a_this_plan_kindOf a_this_plan_comesAt a_this_plan_comers a_this_plan_names a_this_plan_code x_this_plan_size a_this_plan_spans), (wi_0_200_0 a_this_plan_comers cy g_this_plan_comers), (wi_0_12_0 a_this_plan_kindOf cy g_this_plan_kindOf), (wi_0_6_0 a_this_plan_pace cy g_this_plan_pace), (wi_0_300_0 a_this_left cy g_this_left), (wi_0_3600_0 a_this_known cy g_this_known), (wo_3_rr a_this_machine a_this_machine_facts a_this_machine_stack), (wi_0_320_0 a_this_gaps cy g_this_gaps), (wi_0_13_0 a_this_machine_facts cy g_this_machine_facts), (wi_0_12_0 a_this_plan_comesAt cy g_this_plan_comesAt), (wi_0_6_0 a_this_trusts cy g_this_trusts), (wi_0_6_0 a_this_plan_calm cy g_this_plan_calm), (wi_0_6_0 a_this_plan_spans cy g_this_plan_spans), (wi_0_1600_0 a_this_plan_code cy g_this_plan_code), (wi_0_64_0 a_this_machine_stack cy g_this_machine_stack)] (k_Qv dC dI (fun (u : Int32 × Int32 × Int32 × (Nat → Int32) × (Nat → Int32) × (Nat → Int32) × (Nat → Int32)) => match u with | (n0, n1, n2, n3, n4, n5, n6) => (F_X7_walk (lf_A g_this_machine_facts) (lf_A g_this_machine_stack) (lf_A g_this_plan_calm) (lf_A g_this_plan_pace) (Int32.toInt x_this_plan_walkers) (lf_A g_this_plan_kindOf) (lf_A g_this_plan_comesAt) (lf_A g_this_plan_comers) (lf_A g_this_plan_code) (lf_A g_this_plan_spans) (Int32.toInt x_this_day) (lf_A g_this_trusts) (Int32.toInt x_this_absent) (Int32.toInt x_this_asksReds) (lf_A g_this_gaps) (lf_A g_this_known) (lf_A g_this_left) (lf_A g_this_leaves) = ((Int32.toInt n0), (Int32.toInt n1), (Int32.toInt n2), (lf_A n3), (lf_A n4), (lf_A n5), (lf_A n6)))) (fun u : Int32 × Int32 × Int32 × (Nat → Int32) × (Nat → Int32) × (Nat → Int32) × (Nat → Int32) => match u with | (n0, n1, n2, n3, n4, n5, n6) => [(wo_7_rririiiirrrrriiii a_this a_this_machine a_this_plan x_this_day a_this_trusts x_this_rule x_this_green x_this_absent x_this_asksReds a_this_cars a_this_gaps a_this_known a_this_left a_this_leaves x_this_pressed n0 n1 n2), (wi_0_12_0 a_this_leaves cy n3), (wo_4_iiiiiiirrrirrrrrir a_this_plan x_this_plan_cycle x_this_plan_green x_this_plan_rule x_this_plan_least x_this_plan_away x_this_plan_statements x_this_plan_kinds a_this_plan_calm a_this_plan_pace a_this_plan_trusts x_this_plan_walkers a_this_plan_kindOf a_this_plan_comesAt a_this_plan_comers a_this_plan_names a_this_plan_code x_this_plan_size a_this_plan_spans), (wi_0_200_0 a_this_plan_comers cy g_this_plan_comers), (wi_0_12_0 a_this_plan_kindOf cy g_this_plan_kindOf), (wi_0_6_0 a_this_plan_pace cy g_this_plan_pace), (wi_0_300_0 a_this_left cy g_this_left), (wi_0_3600_0 a_this_known cy n4), (wo_3_rr a_this_machine a_this_machine_facts a_this_machine_stack), (wi_0_320_0 a_this_gaps cy g_this_gaps), (wi_0_13_0 a_this_machine_facts cy n5), (wi_0_12_0 a_this_plan_comesAt cy g_this_plan_comesAt), (wi_0_6_0 a_this_trusts cy g_this_trusts), (wi_0_6_0 a_this_plan_calm cy g_this_plan_calm), (wi_0_6_0 a_this_plan_spans cy g_this_plan_spans), (wi_0_1600_0 a_this_plan_code cy g_this_plan_code), (wi_0_64_0 a_this_machine_stack cy n6)])) := by
  refine k_ofW2 (by decide +kernel) (Nat.le_of_ble_eq_true rfl) ?_
  intro p e s m below meth c A ls H locs args Q hQ C0 hZ hr hlk hin hP hD hA hS hl
  have C0 : k_cx p s m args c cX7_walk 9 RX7 dC dI cy sq := C0
  have hx := C0.1
  have hb := C0.2.1
  have hl : lv_has ls 9 [(0, .ref a_this)] := hl
  obtain ⟨O, hO⟩ : ∃ o, o = F_X7_walk (lf_A g_this_machine_facts) (lf_A g_this_machine_stack) (lf_A g_this_plan_calm) (lf_A g_this_plan_pace) (Int32.toInt x_this_plan_walkers) (lf_A g_this_plan_kindOf) (lf_A g_this_plan_comesAt) (lf_A g_this_plan_comers) (lf_A g_this_plan_code) (lf_A g_this_plan_spans) (Int32.toInt x_this_day) (lf_A g_this_trusts) (Int32.toInt x_this_absent) (Int32.toInt x_this_asksReds) (lf_A g_this_gaps) (lf_A g_this_known) (lf_A g_this_left) (lf_A g_this_leaves) := ⟨_, rfl⟩
  have hq := hO
  unfold F_X7_walk at hq
  have jn45 : ∀ (n : Nat) (J45_l3 : Int32) (J45_a1 : Nat → Int32) (J45_l2 : Int32) (J45_l4 : Int32) (J45_l1 : Int32) (J45_c0_14 : Int32) (J45_c0_15 : Int32) (J45_c0_16 : Int32) (J45_a7 : Nat → Int32) (J45_a10 : Nat → Int32) (J45_a16 : Nat → Int32) (H : Heap) (locs : List Loc) (ls : Array Slot), ib J45_l4 0 300 → (O = F_X7_walk_45 (lf_A g_this_plan_calm) (lf_A g_this_plan_pace) (Int32.toInt x_this_plan_walkers) (lf_A g_this_plan_kindOf) (lf_A g_this_plan_comesAt) (lf_A g_this_plan_comers) (lf_A g_this_plan_code) (lf_A g_this_plan_spans) (Int32.toInt x_this_day) (lf_A g_this_trusts) (Int32.toInt x_this_asksReds) (lf_A g_this_gaps) (lf_A g_this_left) n (Int32.toInt J45_l3) (lf_A J45_a1) (Int32.toInt J45_l2) (Int32.toInt J45_l4) (Int32.toInt J45_l1) (Int32.toInt J45_c0_14) (Int32.toInt J45_c0_15) (Int32.toInt J45_c0_16) (lf_A J45_a7) (lf_A J45_a10) (lf_A J45_a16)) → 301 ≤ J45_l4.toInt + (n : Int) → va_P (dC, dI) vwCl [(wo_7_rririiiirrrrriiii a_this a_this_machine a_this_plan x_this_day a_this_trusts x_this_rule x_this_green x_this_absent x_this_asksReds a_this_cars a_this_gaps a_this_known a_this_left a_this_leaves x_this_pressed J45_c0_14 J45_c0_15 J45_c0_16), (wi_0_12_0 a_this_leaves cy J45_a1), (wo_4_iiiiiiirrrirrrrrir a_this_plan x_this_plan_cycle x_this_plan_green x_this_plan_rule x_this_plan_least x_this_plan_away x_this_plan_statements x_this_plan_kinds a_this_plan_calm a_this_plan_pace a_this_plan_trusts x_this_plan_walkers a_this_plan_kindOf a_this_plan_comesAt a_this_plan_comers a_this_plan_names a_this_plan_code x_this_plan_size a_this_plan_spans), (wi_0_200_0 a_this_plan_comers cy g_this_plan_comers), (wi_0_12_0 a_this_plan_kindOf cy g_this_plan_kindOf), (wi_0_6_0 a_this_plan_pace cy g_this_plan_pace), (wi_0_300_0 a_this_left cy g_this_left), (wi_0_3600_0 a_this_known cy J45_a7), (wo_3_rr a_this_machine a_this_machine_facts a_this_machine_stack), (wi_0_320_0 a_this_gaps cy g_this_gaps), (wi_0_13_0 a_this_machine_facts cy J45_a10), (wi_0_12_0 a_this_plan_comesAt cy g_this_plan_comesAt), (wi_0_6_0 a_this_trusts cy g_this_trusts), (wi_0_6_0 a_this_plan_calm cy g_this_plan_calm), (wi_0_6_0 a_this_plan_spans cy g_this_plan_spans), (wi_0_1600_0 a_this_plan_code cy g_this_plan_code), (wi_0_64_0 a_this_machine_stack cy J45_a16)] H → va_D A [(wo_7_rririiiirrrrriiii a_this a_this_machine a_this_plan x_this_day a_this_trusts x_this_rule x_this_green x_this_absent x_this_asksReds a_this_cars a_this_gaps a_this_known a_this_left a_this_leaves x_this_pressed J45_c0_14 J45_c0_15 J45_c0_16), (wi_0_12_0 a_this_leaves cy J45_a1), (wo_4_iiiiiiirrrirrrrrir a_this_plan x_this_plan_cycle x_this_plan_green x_this_plan_rule x_this_plan_least x_this_plan_away x_this_plan_statements x_this_plan_kinds a_this_plan_calm a_this_plan_pace a_this_plan_trusts x_this_plan_walkers a_this_plan_kindOf a_this_plan_comesAt a_this_plan_comers a_this_plan_names a_this_plan_code x_this_plan_size a_this_plan_spans), (wi_0_200_0 a_this_plan_comers cy g_this_plan_comers), (wi_0_12_0 a_this_plan_kindOf cy g_this_plan_kindOf), (wi_0_6_0 a_this_plan_pace cy g_this_plan_pace), (wi_0_300_0 a_this_left cy g_this_left), (wi_0_3600_0 a_this_known cy J45_a7), (wo_3_rr a_this_machine a_this_machine_facts a_this_machine_stack), (wi_0_320_0 a_this_gaps cy g_this_gaps), (wi_0_13_0 a_this_machine_facts cy J45_a10), (wi_0_12_0 a_this_plan_comesAt cy g_this_plan_comesAt), (wi_0_6_0 a_this_trusts cy g_this_trusts), (wi_0_6_0 a_this_plan_calm cy g_this_plan_calm), (wi_0_6_0 a_this_plan_spans cy g_this_plan_spans), (wi_0_1600_0 a_this_plan_code cy g_this_plan_code), (wi_0_64_0 a_this_machine_stack cy J45_a16)] → va_S A s.heap H locs → lv_has ls 9 [(0, .ref a_this), (1, .int J45_l1), (2, .int J45_l2), (3, .int J45_l3), (4, .int J45_l4)] → W p l e { frames := 4, cells := 0, slots := 0, locals := 97 } s m args below meth c H locs 0 0 Q (F0 m 45 ls []) := by
    as_aux_lemma =>
      intro n
      induction n with
      | zero =>
        intro J45_l3 J45_a1 J45_l2 J45_l4 J45_l1 J45_c0_14 J45_c0_15 J45_c0_16 J45_a7 J45_a10 J45_a16 H locs ls hJ45_l4 hq hm
        exact absurd hm (by have := hJ45_l4; unfold ib at this; omega)
      | succ n ih =>
        intro J45_l3 J45_a1 J45_l2 J45_l4 J45_l1 J45_c0_14 J45_c0_15 J45_c0_16 J45_a7 J45_a10 J45_a16 H locs ls hJ45_l4 hq hm45 hP hD hS hl
        have ih45 := ih
        obtain ⟨K45, hK45⟩ : ∃ K, K = F_X7_walk_45 (lf_A g_this_plan_calm) (lf_A g_this_plan_pace) (Int32.toInt x_this_plan_walkers) (lf_A g_this_plan_kindOf) (lf_A g_this_plan_comesAt) (lf_A g_this_plan_comers) (lf_A g_this_plan_code) (lf_A g_this_plan_spans) (Int32.toInt x_this_day) (lf_A g_this_trusts) (Int32.toInt x_this_asksReds) (lf_A g_this_gaps) (lf_A g_this_left) n := ⟨_, rfl⟩
        have hq : O = F_X7_walk_45b (lf_A g_this_plan_calm) (lf_A g_this_plan_pace) (Int32.toInt x_this_plan_walkers) (lf_A g_this_plan_kindOf) (lf_A g_this_plan_comesAt) (lf_A g_this_plan_comers) (lf_A g_this_plan_code) (lf_A g_this_plan_spans) (Int32.toInt x_this_day) (lf_A g_this_trusts) (Int32.toInt x_this_asksReds) (lf_A g_this_gaps) (lf_A g_this_left) K45 (Int32.toInt J45_l3) (lf_A J45_a1) (Int32.toInt J45_l2) (Int32.toInt J45_l4) (Int32.toInt J45_l1) (Int32.toInt J45_c0_14) (Int32.toInt J45_c0_15) (Int32.toInt J45_c0_16) (lf_A J45_a7) (lf_A J45_a10) (lf_A J45_a16) := by rw [hK45]; exact hq
        unfold F_X7_walk_45b at hq
        have jn87 : ∀ (n : Nat) (J87_l2 : Int32) (J87_l3 : Int32) (J87_l5 : Int32) (J87_l1 : Int32) (J87_l6 : Int32) (J87_c0_14 : Int32) (J87_c0_15 : Int32) (J87_c0_16 : Int32) (J87_a1 : Nat → Int32) (J87_a7 : Nat → Int32) (J87_a10 : Nat → Int32) (J87_a16 : Nat → Int32) (H : Heap) (locs : List Loc) (ls : Array Slot), ib J45_l4 0 299 → ib J87_l6 0 12 → (O = F_X7_walk_87 (lf_A g_this_plan_calm) (lf_A g_this_plan_pace) (Int32.toInt x_this_plan_walkers) (lf_A g_this_plan_kindOf) (lf_A g_this_plan_comesAt) (lf_A g_this_plan_code) (lf_A g_this_plan_spans) (Int32.toInt x_this_day) (lf_A g_this_trusts) (Int32.toInt x_this_asksReds) (lf_A g_this_gaps) (lf_A g_this_left) (Int32.toInt J45_l4) K45 n (Int32.toInt J87_l2) (Int32.toInt J87_l3) (Int32.toInt J87_l5) (Int32.toInt J87_l1) (Int32.toInt J87_l6) (Int32.toInt J87_c0_14) (Int32.toInt J87_c0_15) (Int32.toInt J87_c0_16) (lf_A J87_a1) (lf_A J87_a7) (lf_A J87_a10) (lf_A J87_a16)) → 13 ≤ J87_l6.toInt + (n : Int) → va_P (dC, dI) vwCl [(wo_7_rririiiirrrrriiii a_this a_this_machine a_this_plan x_this_day a_this_trusts x_this_rule x_this_green x_this_absent x_this_asksReds a_this_cars a_this_gaps a_this_known a_this_left a_this_leaves x_this_pressed J87_c0_14 J87_c0_15 J87_c0_16), (wi_0_12_0 a_this_leaves cy J87_a1), (wo_4_iiiiiiirrrirrrrrir a_this_plan x_this_plan_cycle x_this_plan_green x_this_plan_rule x_this_plan_least x_this_plan_away x_this_plan_statements x_this_plan_kinds a_this_plan_calm a_this_plan_pace a_this_plan_trusts x_this_plan_walkers a_this_plan_kindOf a_this_plan_comesAt a_this_plan_comers a_this_plan_names a_this_plan_code x_this_plan_size a_this_plan_spans), (wi_0_200_0 a_this_plan_comers cy g_this_plan_comers), (wi_0_12_0 a_this_plan_kindOf cy g_this_plan_kindOf), (wi_0_6_0 a_this_plan_pace cy g_this_plan_pace), (wi_0_300_0 a_this_left cy g_this_left), (wi_0_3600_0 a_this_known cy J87_a7), (wo_3_rr a_this_machine a_this_machine_facts a_this_machine_stack), (wi_0_320_0 a_this_gaps cy g_this_gaps), (wi_0_13_0 a_this_machine_facts cy J87_a10), (wi_0_12_0 a_this_plan_comesAt cy g_this_plan_comesAt), (wi_0_6_0 a_this_trusts cy g_this_trusts), (wi_0_6_0 a_this_plan_calm cy g_this_plan_calm), (wi_0_6_0 a_this_plan_spans cy g_this_plan_spans), (wi_0_1600_0 a_this_plan_code cy g_this_plan_code), (wi_0_64_0 a_this_machine_stack cy J87_a16)] H → va_D A [(wo_7_rririiiirrrrriiii a_this a_this_machine a_this_plan x_this_day a_this_trusts x_this_rule x_this_green x_this_absent x_this_asksReds a_this_cars a_this_gaps a_this_known a_this_left a_this_leaves x_this_pressed J87_c0_14 J87_c0_15 J87_c0_16), (wi_0_12_0 a_this_leaves cy J87_a1), (wo_4_iiiiiiirrrirrrrrir a_this_plan x_this_plan_cycle x_this_plan_green x_this_plan_rule x_this_plan_least x_this_plan_away x_this_plan_statements x_this_plan_kinds a_this_plan_calm a_this_plan_pace a_this_plan_trusts x_this_plan_walkers a_this_plan_kindOf a_this_plan_comesAt a_this_plan_comers a_this_plan_names a_this_plan_code x_this_plan_size a_this_plan_spans), (wi_0_200_0 a_this_plan_comers cy g_this_plan_comers), (wi_0_12_0 a_this_plan_kindOf cy g_this_plan_kindOf), (wi_0_6_0 a_this_plan_pace cy g_this_plan_pace), (wi_0_300_0 a_this_left cy g_this_left), (wi_0_3600_0 a_this_known cy J87_a7), (wo_3_rr a_this_machine a_this_machine_facts a_this_machine_stack), (wi_0_320_0 a_this_gaps cy g_this_gaps), (wi_0_13_0 a_this_machine_facts cy J87_a10), (wi_0_12_0 a_this_plan_comesAt cy g_this_plan_comesAt), (wi_0_6_0 a_this_trusts cy g_this_trusts), (wi_0_6_0 a_this_plan_calm cy g_this_plan_calm), (wi_0_6_0 a_this_plan_spans cy g_this_plan_spans), (wi_0_1600_0 a_this_plan_code cy g_this_plan_code), (wi_0_64_0 a_this_machine_stack cy J87_a16)] → va_S A s.heap H locs → lv_has ls 9 [(0, .ref a_this), (1, .int J87_l1), (2, .int J87_l2), (3, .int J87_l3), (4, .int J45_l4), (5, .int J87_l5), (6, .int J87_l6)] → W p l e { frames := 4, cells := 0, slots := 0, locals := 97 } s m args below meth c H locs 0 0 Q (F0 m 87 ls []) := by
          as_aux_lemma =>
            intro n
            induction n with
            | zero =>
              intro J87_l2 J87_l3 J87_l5 J87_l1 J87_l6 J87_c0_14 J87_c0_15 J87_c0_16 J87_a1 J87_a7 J87_a10 J87_a16 H locs ls hK87_J45_l4 hJ87_l6 hq hm
              exact absurd hm (by have := hJ87_l6; unfold ib at this; omega)
            | succ n ih =>
              intro J87_l2 J87_l3 J87_l5 J87_l1 J87_l6 J87_c0_14 J87_c0_15 J87_c0_16 J87_a1 J87_a7 J87_a10 J87_a16 H locs ls hK87_J45_l4 hJ87_l6 hq hm87 hP hD hS hl
              have ih87 := ih
              obtain ⟨K87, hK87⟩ : ∃ K, K = F_X7_walk_87 (lf_A g_this_plan_calm) (lf_A g_this_plan_pace) (Int32.toInt x_this_plan_walkers) (lf_A g_this_plan_kindOf) (lf_A g_this_plan_comesAt) (lf_A g_this_plan_code) (lf_A g_this_plan_spans) (Int32.toInt x_this_day) (lf_A g_this_trusts) (Int32.toInt x_this_asksReds) (lf_A g_this_gaps) (lf_A g_this_left) (Int32.toInt J45_l4) K45 n := ⟨_, rfl⟩
              have hq : O = F_X7_walk_87b (lf_A g_this_plan_calm) (lf_A g_this_plan_pace) (Int32.toInt x_this_plan_walkers) (lf_A g_this_plan_kindOf) (lf_A g_this_plan_comesAt) (lf_A g_this_plan_code) (lf_A g_this_plan_spans) (Int32.toInt x_this_day) (lf_A g_this_trusts) (Int32.toInt x_this_asksReds) (lf_A g_this_gaps) (lf_A g_this_left) (Int32.toInt J45_l4) K45 K87 (Int32.toInt J87_l2) (Int32.toInt J87_l3) (Int32.toInt J87_l5) (Int32.toInt J87_l1) (Int32.toInt J87_l6) (Int32.toInt J87_c0_14) (Int32.toInt J87_c0_15) (Int32.toInt J87_c0_16) (lf_A J87_a1) (lf_A J87_a7) (lf_A J87_a10) (lf_A J87_a16) := by rw [hK87]; exact hq
              unfold F_X7_walk_87b at hq
              have jn230 : ∀ (J230_l7 : Int32) (J230_a7 : Nat → Int32) (J230_a10 : Nat → Int32) (J230_a16 : Nat → Int32) (J230_l1 : Int32) (J230_l2 : Int32) (J230_c0_14 : Int32) (J230_c0_15 : Int32) (J230_c0_16 : Int32) (J230_a1 : Nat → Int32) (H : Heap) (locs : List Loc) (ls : Array Slot), ib J45_l4 0 299 → ib J87_l6 0 11 → ib x_this_plan_walkers 1 12 → (O = F_X7_walk_230 (Int32.toInt J87_l3) (Int32.toInt J87_l5) (Int32.toInt J87_l6) K87 (Int32.toInt J230_l7) (lf_A J230_a7) (lf_A J230_a10) (lf_A J230_a16) (Int32.toInt J230_l1) (Int32.toInt J230_l2) (Int32.toInt J230_c0_14) (Int32.toInt J230_c0_15) (Int32.toInt J230_c0_16) (lf_A J230_a1)) → va_P (dC, dI) vwCl [(wo_7_rririiiirrrrriiii a_this a_this_machine a_this_plan x_this_day a_this_trusts x_this_rule x_this_green x_this_absent x_this_asksReds a_this_cars a_this_gaps a_this_known a_this_left a_this_leaves x_this_pressed J230_c0_14 J230_c0_15 J230_c0_16), (wi_0_12_0 a_this_leaves cy J230_a1), (wo_4_iiiiiiirrrirrrrrir a_this_plan x_this_plan_cycle x_this_plan_green x_this_plan_rule x_this_plan_least x_this_plan_away x_this_plan_statements x_this_plan_kinds a_this_plan_calm a_this_plan_pace a_this_plan_trusts x_this_plan_walkers a_this_plan_kindOf a_this_plan_comesAt a_this_plan_comers a_this_plan_names a_this_plan_code x_this_plan_size a_this_plan_spans), (wi_0_200_0 a_this_plan_comers cy g_this_plan_comers), (wi_0_12_0 a_this_plan_kindOf cy g_this_plan_kindOf), (wi_0_6_0 a_this_plan_pace cy g_this_plan_pace), (wi_0_300_0 a_this_left cy g_this_left), (wi_0_3600_0 a_this_known cy J230_a7), (wo_3_rr a_this_machine a_this_machine_facts a_this_machine_stack), (wi_0_320_0 a_this_gaps cy g_this_gaps), (wi_0_13_0 a_this_machine_facts cy J230_a10), (wi_0_12_0 a_this_plan_comesAt cy g_this_plan_comesAt), (wi_0_6_0 a_this_trusts cy g_this_trusts), (wi_0_6_0 a_this_plan_calm cy g_this_plan_calm), (wi_0_6_0 a_this_plan_spans cy g_this_plan_spans), (wi_0_1600_0 a_this_plan_code cy g_this_plan_code), (wi_0_64_0 a_this_machine_stack cy J230_a16)] H → va_D A [(wo_7_rririiiirrrrriiii a_this a_this_machine a_this_plan x_this_day a_this_trusts x_this_rule x_this_green x_this_absent x_this_asksReds a_this_cars a_this_gaps a_this_known a_this_left a_this_leaves x_this_pressed J230_c0_14 J230_c0_15 J230_c0_16), (wi_0_12_0 a_this_leaves cy J230_a1), (wo_4_iiiiiiirrrirrrrrir a_this_plan x_this_plan_cycle x_this_plan_green x_this_plan_rule x_this_plan_least x_this_plan_away x_this_plan_statements x_this_plan_kinds a_this_plan_calm a_this_plan_pace a_this_plan_trusts x_this_plan_walkers a_this_plan_kindOf a_this_plan_comesAt a_this_plan_comers a_this_plan_names a_this_plan_code x_this_plan_size a_this_plan_spans), (wi_0_200_0 a_this_plan_comers cy g_this_plan_comers), (wi_0_12_0 a_this_plan_kindOf cy g_this_plan_kindOf), (wi_0_6_0 a_this_plan_pace cy g_this_plan_pace), (wi_0_300_0 a_this_left cy g_this_left), (wi_0_3600_0 a_this_known cy J230_a7), (wo_3_rr a_this_machine a_this_machine_facts a_this_machine_stack), (wi_0_320_0 a_this_gaps cy g_this_gaps), (wi_0_13_0 a_this_machine_facts cy J230_a10), (wi_0_12_0 a_this_plan_comesAt cy g_this_plan_comesAt), (wi_0_6_0 a_this_trusts cy g_this_trusts), (wi_0_6_0 a_this_plan_calm cy g_this_plan_calm), (wi_0_6_0 a_this_plan_spans cy g_this_plan_spans), (wi_0_1600_0 a_this_plan_code cy g_this_plan_code), (wi_0_64_0 a_this_machine_stack cy J230_a16)] → va_S A s.heap H locs → lv_has ls 9 [(0, .ref a_this), (1, .int J230_l1), (2, .int J230_l2), (3, .int J87_l3), (4, .int J45_l4), (5, .int J87_l5), (6, .int J87_l6), (7, .int J230_l7)] → W p l e { frames := 4, cells := 0, slots := 0, locals := 97 } s m args below meth c H locs 0 0 Q (F0 m 230 ls []) := by
                intro J230_l7 J230_a7 J230_a10 J230_a16 J230_l1 J230_l2 J230_c0_14 J230_c0_15 J230_c0_16 J230_a1 H locs ls hK230_J45_l4 hK230_J87_l6 hK230_x_this_plan_walkers hq hP hD hS hl
                unfold F_X7_walk_230 at hq
                obtain ⟨z1, ez1⟩ : ∃ y : Int32, y = J87_l6 + 1 := ⟨_, rfl⟩
                refine lv_iinc (v := z1) (lv' := [(6, .int z1), (0, .ref a_this), (1, .int J230_l1), (2, .int J230_l2), (3, .int J87_l3), (4, .int J45_l4), (5, .int J87_l5), (7, .int J230_l7)]) hx hb dX7_walk_230 hl (k := 6) rfl (by rw [ez1]; rfl) (Nat.le_of_ble_eq_true rfl) rfl (fun ls hl => ?_)
                have h2 := ib_add hK230_J87_l6 (ib_c 1 1 1 rfl) rfl
                rw [← ez1] at h2
                have h3 : ib z1 1 12 := ib_w 1 12 h2.1 rfl
                have Ez1 := lf_add h2.2 (lf_rf J87_l6) (lf_lc 1 (1 : Int) rfl)
                refine lv_goto (tgt := 87) hx hb dX7_walk_233 rfl ?_
                exact ih87 J230_l2 J87_l3 J87_l5 J230_l1 z1 J230_c0_14 J230_c0_15 J230_c0_16 J230_a1 J230_a7 J230_a10 J230_a16 H locs ls (ib_w 0 299 hK230_J45_l4 rfl) (ib_w 0 12 h3 rfl) (by rw [← hK87]; rw [lf_u Ez1]; exact hq) (by have := h2.2; have : (1 : Int32).toInt = 1 := rfl; omega) hP hD hS (lv_sub hl [1, 2, 3, 4, 5, 6, 0] rfl)
              have jn214 : ∀ (J214_l7 : Int32) (J214_l8 : Int32) (J214_c0_14 : Int32) (J214_l1 : Int32) (J214_c0_15 : Int32) (J214_c0_16 : Int32) (J214_a7 : Nat → Int32) (J214_a10 : Nat → Int32) (J214_a16 : Nat → Int32) (H : Heap) (locs : List Loc) (ls : Array Slot), ib J45_l4 0 299 → ib J87_l6 0 11 → ib x_this_plan_walkers 1 12 → (O = F_X7_walk_214 (Int32.toInt J45_l4) (Int32.toInt J87_l2) (Int32.toInt J87_l3) (Int32.toInt J87_l5) (Int32.toInt J87_l6) (lf_A J87_a1) K87 (Int32.toInt J214_l7) (Int32.toInt J214_l8) (Int32.toInt J214_c0_14) (Int32.toInt J214_l1) (Int32.toInt J214_c0_15) (Int32.toInt J214_c0_16) (lf_A J214_a7) (lf_A J214_a10) (lf_A J214_a16)) → va_P (dC, dI) vwCl [(wo_7_rririiiirrrrriiii a_this a_this_machine a_this_plan x_this_day a_this_trusts x_this_rule x_this_green x_this_absent x_this_asksReds a_this_cars a_this_gaps a_this_known a_this_left a_this_leaves x_this_pressed J214_c0_14 J214_c0_15 J214_c0_16), (wi_0_12_0 a_this_leaves cy J87_a1), (wo_4_iiiiiiirrrirrrrrir a_this_plan x_this_plan_cycle x_this_plan_green x_this_plan_rule x_this_plan_least x_this_plan_away x_this_plan_statements x_this_plan_kinds a_this_plan_calm a_this_plan_pace a_this_plan_trusts x_this_plan_walkers a_this_plan_kindOf a_this_plan_comesAt a_this_plan_comers a_this_plan_names a_this_plan_code x_this_plan_size a_this_plan_spans), (wi_0_200_0 a_this_plan_comers cy g_this_plan_comers), (wi_0_12_0 a_this_plan_kindOf cy g_this_plan_kindOf), (wi_0_6_0 a_this_plan_pace cy g_this_plan_pace), (wi_0_300_0 a_this_left cy g_this_left), (wi_0_3600_0 a_this_known cy J214_a7), (wo_3_rr a_this_machine a_this_machine_facts a_this_machine_stack), (wi_0_320_0 a_this_gaps cy g_this_gaps), (wi_0_13_0 a_this_machine_facts cy J214_a10), (wi_0_12_0 a_this_plan_comesAt cy g_this_plan_comesAt), (wi_0_6_0 a_this_trusts cy g_this_trusts), (wi_0_6_0 a_this_plan_calm cy g_this_plan_calm), (wi_0_6_0 a_this_plan_spans cy g_this_plan_spans), (wi_0_1600_0 a_this_plan_code cy g_this_plan_code), (wi_0_64_0 a_this_machine_stack cy J214_a16)] H → va_D A [(wo_7_rririiiirrrrriiii a_this a_this_machine a_this_plan x_this_day a_this_trusts x_this_rule x_this_green x_this_absent x_this_asksReds a_this_cars a_this_gaps a_this_known a_this_left a_this_leaves x_this_pressed J214_c0_14 J214_c0_15 J214_c0_16), (wi_0_12_0 a_this_leaves cy J87_a1), (wo_4_iiiiiiirrrirrrrrir a_this_plan x_this_plan_cycle x_this_plan_green x_this_plan_rule x_this_plan_least x_this_plan_away x_this_plan_statements x_this_plan_kinds a_this_plan_calm a_this_plan_pace a_this_plan_trusts x_this_plan_walkers a_this_plan_kindOf a_this_plan_comesAt a_this_plan_comers a_this_plan_names a_this_plan_code x_this_plan_size a_this_plan_spans), (wi_0_200_0 a_this_plan_comers cy g_this_plan_comers), (wi_0_12_0 a_this_plan_kindOf cy g_this_plan_kindOf), (wi_0_6_0 a_this_plan_pace cy g_this_plan_pace), (wi_0_300_0 a_this_left cy g_this_left), (wi_0_3600_0 a_this_known cy J214_a7), (wo_3_rr a_this_machine a_this_machine_facts a_this_machine_stack), (wi_0_320_0 a_this_gaps cy g_this_gaps), (wi_0_13_0 a_this_machine_facts cy J214_a10), (wi_0_12_0 a_this_plan_comesAt cy g_this_plan_comesAt), (wi_0_6_0 a_this_trusts cy g_this_trusts), (wi_0_6_0 a_this_plan_calm cy g_this_plan_calm), (wi_0_6_0 a_this_plan_spans cy g_this_plan_spans), (wi_0_1600_0 a_this_plan_code cy g_this_plan_code), (wi_0_64_0 a_this_machine_stack cy J214_a16)] → va_S A s.heap H locs → lv_has ls 9 [(0, .ref a_this), (1, .int J214_l1), (2, .int J87_l2), (3, .int J87_l3), (4, .int J45_l4), (5, .int J87_l5), (6, .int J87_l6), (7, .int J214_l7), (8, .int J214_l8)] → W p l e { frames := 4, cells := 0, slots := 0, locals := 97 } s m args below meth c H locs 0 0 Q (F0 m 214 ls []) := by
                as_aux_lemma =>
                  intro J214_l7 J214_l8 J214_c0_14 J214_l1 J214_c0_15 J214_c0_16 J214_a7 J214_a10 J214_a16 H locs ls hK214_J45_l4 hK214_J87_l6 hK214_x_this_plan_walkers hq hP hD hS hl
                  unfold F_X7_walk_214 at hq
                  refine lv_aload_n hx hb dX7_walk_214 rfl (lv_at hl 0 rfl) ?_
                  refine k_get C0 fg_X7_44 hP 0 rfl rfl dX7_walk_215 ?_
                  refine lv_iload hx hb dX7_walk_218 (lv_at hl 6 rfl) ?_
                  refine lv_iload hx hb dX7_walk_220 (lv_at hl 4 rfl) ?_
                  refine va_iast hx hb C0.2.2.2.2.2.1 hP hD hS 1 0 rfl rfl (ib_in 12 hK214_J87_l6 rfl) dX7_walk_222 (fun H locs hP hD hS => ?_)
                  replace hP : va_P (dC, dI) vwCl [(wo_7_rririiiirrrrriiii a_this a_this_machine a_this_plan x_this_day a_this_trusts x_this_rule x_this_green x_this_absent x_this_asksReds a_this_cars a_this_gaps a_this_known a_this_left a_this_leaves x_this_pressed J214_c0_14 J214_c0_15 J214_c0_16), (wi_0_12_0 a_this_leaves cy (upd J87_a1 (Int32.toNatClampNeg J87_l6) J45_l4)), (wo_4_iiiiiiirrrirrrrrir a_this_plan x_this_plan_cycle x_this_plan_green x_this_plan_rule x_this_plan_least x_this_plan_away x_this_plan_statements x_this_plan_kinds a_this_plan_calm a_this_plan_pace a_this_plan_trusts x_this_plan_walkers a_this_plan_kindOf a_this_plan_comesAt a_this_plan_comers a_this_plan_names a_this_plan_code x_this_plan_size a_this_plan_spans), (wi_0_200_0 a_this_plan_comers cy g_this_plan_comers), (wi_0_12_0 a_this_plan_kindOf cy g_this_plan_kindOf), (wi_0_6_0 a_this_plan_pace cy g_this_plan_pace), (wi_0_300_0 a_this_left cy g_this_left), (wi_0_3600_0 a_this_known cy J214_a7), (wo_3_rr a_this_machine a_this_machine_facts a_this_machine_stack), (wi_0_320_0 a_this_gaps cy g_this_gaps), (wi_0_13_0 a_this_machine_facts cy J214_a10), (wi_0_12_0 a_this_plan_comesAt cy g_this_plan_comesAt), (wi_0_6_0 a_this_trusts cy g_this_trusts), (wi_0_6_0 a_this_plan_calm cy g_this_plan_calm), (wi_0_6_0 a_this_plan_spans cy g_this_plan_spans), (wi_0_1600_0 a_this_plan_code cy g_this_plan_code), (wi_0_64_0 a_this_machine_stack cy J214_a16)] H := hP
                  replace hD := k_D hP hD
                  generalize ef4 : upd J87_a1 (Int32.toNatClampNeg J87_l6) J45_l4 = f4 at hP hD
                  have Ef4 := lf_st ef4 (lf_ra J87_a1) (lf_rf J87_l6) (lf_rf J45_l4)
                  refine lv_iload_n hx hb dX7_walk_223 rfl (lv_at hl 2 rfl) ?_
                  refine lv_iload hx hb dX7_walk_224 (lv_at hl 7 rfl) ?_
                  refine lv_iconst (v := (-1)) hx hb dX7_walk_226 rfl ?_
                  refine lv_ixor hx hb dX7_walk_227 ?_
                  refine lv_topi (fun z5 ez5 => ?_)
                  have Ez5 := lf_op lf_ixor ez5 (lf_rf J214_l7) (lf_lc (-1) (-1 : Int) rfl)
                  refine lv_iand hx hb dX7_walk_228 ?_
                  refine lv_topi (fun z6 ez6 => ?_)
                  have Ez6 := lf_op lf_iand ez6 (lf_rf J87_l2) Ez5
                  refine lv_istore_n (lv' := [(2, .int z6), (0, .ref a_this), (1, .int J214_l1), (3, .int J87_l3), (4, .int J45_l4), (5, .int J87_l5), (6, .int J87_l6), (7, .int J214_l7), (8, .int J214_l8)]) hx hb dX7_walk_229 rfl hl (Nat.le_of_ble_eq_true rfl) rfl (fun ls hl => ?_)
                  exact jn230 J214_l7 J214_a7 J214_a10 J214_a16 J214_l1 z6 J214_c0_14 J214_c0_15 J214_c0_16 f4 H locs ls (ib_w 0 299 hK214_J45_l4 rfl) (ib_w 0 11 hK214_J87_l6 rfl) (ib_w 1 12 hK214_x_this_plan_walkers rfl) (by rw [lf_u Ez6]; rw [lf_ua Ef4]; exact hq) hP hD hS (lv_sub hl [1, 2, 0, 3, 4, 5, 6, 7] rfl)
              have jn207 : ∀ (J207_l7 : Int32) (J207_l8 : Int32) (J207_c0_15 : Int32) (J207_a7 : Nat → Int32) (J207_a10 : Nat → Int32) (J207_a16 : Nat → Int32) (J207_s0 : Int32) (H : Heap) (locs : List Loc) (ls : Array Slot), ib J45_l4 0 299 → ib J87_l6 0 11 → ib J207_l8 (-2147483647) 2147483647 → ib x_this_plan_walkers 1 12 → (O = F_X7_walk_207 (Int32.toInt J45_l4) (Int32.toInt J87_l2) (Int32.toInt J87_l3) (Int32.toInt J87_l5) (Int32.toInt J87_l1) (Int32.toInt J87_l6) (Int32.toInt J87_c0_14) (Int32.toInt J87_c0_16) (lf_A J87_a1) K87 (Int32.toInt J207_l7) (Int32.toInt J207_l8) (Int32.toInt J207_c0_15) (lf_A J207_a7) (lf_A J207_a10) (lf_A J207_a16) (Int32.toInt J207_s0)) → va_P (dC, dI) vwCl [(wo_7_rririiiirrrrriiii a_this a_this_machine a_this_plan x_this_day a_this_trusts x_this_rule x_this_green x_this_absent x_this_asksReds a_this_cars a_this_gaps a_this_known a_this_left a_this_leaves x_this_pressed J87_c0_14 J207_c0_15 J87_c0_16), (wi_0_12_0 a_this_leaves cy J87_a1), (wo_4_iiiiiiirrrirrrrrir a_this_plan x_this_plan_cycle x_this_plan_green x_this_plan_rule x_this_plan_least x_this_plan_away x_this_plan_statements x_this_plan_kinds a_this_plan_calm a_this_plan_pace a_this_plan_trusts x_this_plan_walkers a_this_plan_kindOf a_this_plan_comesAt a_this_plan_comers a_this_plan_names a_this_plan_code x_this_plan_size a_this_plan_spans), (wi_0_200_0 a_this_plan_comers cy g_this_plan_comers), (wi_0_12_0 a_this_plan_kindOf cy g_this_plan_kindOf), (wi_0_6_0 a_this_plan_pace cy g_this_plan_pace), (wi_0_300_0 a_this_left cy g_this_left), (wi_0_3600_0 a_this_known cy J207_a7), (wo_3_rr a_this_machine a_this_machine_facts a_this_machine_stack), (wi_0_320_0 a_this_gaps cy g_this_gaps), (wi_0_13_0 a_this_machine_facts cy J207_a10), (wi_0_12_0 a_this_plan_comesAt cy g_this_plan_comesAt), (wi_0_6_0 a_this_trusts cy g_this_trusts), (wi_0_6_0 a_this_plan_calm cy g_this_plan_calm), (wi_0_6_0 a_this_plan_spans cy g_this_plan_spans), (wi_0_1600_0 a_this_plan_code cy g_this_plan_code), (wi_0_64_0 a_this_machine_stack cy J207_a16)] H → va_D A [(wo_7_rririiiirrrrriiii a_this a_this_machine a_this_plan x_this_day a_this_trusts x_this_rule x_this_green x_this_absent x_this_asksReds a_this_cars a_this_gaps a_this_known a_this_left a_this_leaves x_this_pressed J87_c0_14 J207_c0_15 J87_c0_16), (wi_0_12_0 a_this_leaves cy J87_a1), (wo_4_iiiiiiirrrirrrrrir a_this_plan x_this_plan_cycle x_this_plan_green x_this_plan_rule x_this_plan_least x_this_plan_away x_this_plan_statements x_this_plan_kinds a_this_plan_calm a_this_plan_pace a_this_plan_trusts x_this_plan_walkers a_this_plan_kindOf a_this_plan_comesAt a_this_plan_comers a_this_plan_names a_this_plan_code x_this_plan_size a_this_plan_spans), (wi_0_200_0 a_this_plan_comers cy g_this_plan_comers), (wi_0_12_0 a_this_plan_kindOf cy g_this_plan_kindOf), (wi_0_6_0 a_this_plan_pace cy g_this_plan_pace), (wi_0_300_0 a_this_left cy g_this_left), (wi_0_3600_0 a_this_known cy J207_a7), (wo_3_rr a_this_machine a_this_machine_facts a_this_machine_stack), (wi_0_320_0 a_this_gaps cy g_this_gaps), (wi_0_13_0 a_this_machine_facts cy J207_a10), (wi_0_12_0 a_this_plan_comesAt cy g_this_plan_comesAt), (wi_0_6_0 a_this_trusts cy g_this_trusts), (wi_0_6_0 a_this_plan_calm cy g_this_plan_calm), (wi_0_6_0 a_this_plan_spans cy g_this_plan_spans), (wi_0_1600_0 a_this_plan_code cy g_this_plan_code), (wi_0_64_0 a_this_machine_stack cy J207_a16)] → va_S A s.heap H locs → lv_has ls 9 [(0, .ref a_this), (1, .int J87_l1), (2, .int J87_l2), (3, .int J87_l3), (4, .int J45_l4), (5, .int J87_l5), (6, .int J87_l6), (7, .int J207_l7), (8, .int J207_l8)] → W p l e { frames := 4, cells := 0, slots := 0, locals := 97 } s m args below meth c H locs 0 0 Q (F0 m 207 ls [.int J207_s0, .int J87_c0_16, .ref a_this]) := by
                intro J207_l7 J207_l8 J207_c0_15 J207_a7 J207_a10 J207_a16 J207_s0 H locs ls hK207_J45_l4 hK207_J87_l6 hJ207_l8 hK207_x_this_plan_walkers hq hP hD hS hl
                unfold F_X7_walk_207 at hq
                refine lv_ior hx hb dX7_walk_207 ?_
                refine lv_topi (fun z7 ez7 => ?_)
                have Ez7 := lf_op lf_ior ez7 (lf_rf J87_c0_16) (lf_rf J207_s0)
                refine k_put C0 fp_X7_56 hP hD hS 0 rfl rfl rfl (Nat.le_of_ble_eq_true rfl) dX7_walk_208 (fun H locs hP hD hS => ?_)
                replace hP : va_P (dC, dI) vwCl [(wo_7_rririiiirrrrriiii a_this a_this_machine a_this_plan x_this_day a_this_trusts x_this_rule x_this_green x_this_absent x_this_asksReds a_this_cars a_this_gaps a_this_known a_this_left a_this_leaves x_this_pressed J87_c0_14 J207_c0_15 z7), (wi_0_12_0 a_this_leaves cy J87_a1), (wo_4_iiiiiiirrrirrrrrir a_this_plan x_this_plan_cycle x_this_plan_green x_this_plan_rule x_this_plan_least x_this_plan_away x_this_plan_statements x_this_plan_kinds a_this_plan_calm a_this_plan_pace a_this_plan_trusts x_this_plan_walkers a_this_plan_kindOf a_this_plan_comesAt a_this_plan_comers a_this_plan_names a_this_plan_code x_this_plan_size a_this_plan_spans), (wi_0_200_0 a_this_plan_comers cy g_this_plan_comers), (wi_0_12_0 a_this_plan_kindOf cy g_this_plan_kindOf), (wi_0_6_0 a_this_plan_pace cy g_this_plan_pace), (wi_0_300_0 a_this_left cy g_this_left), (wi_0_3600_0 a_this_known cy J207_a7), (wo_3_rr a_this_machine a_this_machine_facts a_this_machine_stack), (wi_0_320_0 a_this_gaps cy g_this_gaps), (wi_0_13_0 a_this_machine_facts cy J207_a10), (wi_0_12_0 a_this_plan_comesAt cy g_this_plan_comesAt), (wi_0_6_0 a_this_trusts cy g_this_trusts), (wi_0_6_0 a_this_plan_calm cy g_this_plan_calm), (wi_0_6_0 a_this_plan_spans cy g_this_plan_spans), (wi_0_1600_0 a_this_plan_code cy g_this_plan_code), (wi_0_64_0 a_this_machine_stack cy J207_a16)] H := hP
                replace hD := k_D hP hD
                obtain ⟨z8, ez8⟩ : ∃ y : Int32, y = J87_l1 + 1 := ⟨_, rfl⟩
                refine lv_iinc (v := z8) (lv' := [(1, .int z8), (0, .ref a_this), (2, .int J87_l2), (3, .int J87_l3), (4, .int J45_l4), (5, .int J87_l5), (6, .int J87_l6), (7, .int J207_l7), (8, .int J207_l8)]) hx hb dX7_walk_211 hl (k := 1) rfl (by rw [ez8]; rfl) (Nat.le_of_ble_eq_true rfl) rfl (fun ls hl => ?_)
                have Ez8 := lf_op lf_iadd ez8 (lf_rf J87_l1) (lf_lc 1 (1 : Int) rfl)
                exact jn214 J207_l7 J207_l8 J87_c0_14 z8 J207_c0_15 z7 J207_a7 J207_a10 J207_a16 H locs ls (ib_w 0 299 hK207_J45_l4 rfl) (ib_w 0 11 hK207_J87_l6 rfl) (ib_w 1 12 hK207_x_this_plan_walkers rfl) (by rw [lf_u Ez8]; rw [lf_u Ez7]; exact hq) hP hD hS (lv_sub hl [1, 0, 2, 3, 4, 5, 6, 7, 8] rfl)
              refine lv_iload hx hb dX7_walk_87 (lv_at hl 6 rfl) ?_
              refine lv_aload_n hx hb dX7_walk_89 rfl (lv_at hl 0 rfl) ?_
              refine k_get C0 fg_X7_63 hP 0 rfl rfl dX7_walk_90 ?_
              refine k_get C0 fg_X7_137 hP 2 rfl rfl dX7_walk_93 ?_
              refine lv_icmp_ge (tgt := 236) hx hb dX7_walk_96 rfl (fun c9 => ?_) (fun c9 => ?_)
              · replace hq := lf_pos hq (lf_le (lf_rf x_this_plan_walkers) (lf_rf J87_l6) c9)
                have h10 := ib_le hx_this_plan_walkers hJ87_l6 c9
                obtain ⟨z11, ez11⟩ : ∃ y : Int32, y = J45_l4 + 1 := ⟨_, rfl⟩
                refine lv_iinc (v := z11) (lv' := [(4, .int z11), (0, .ref a_this), (1, .int J87_l1), (2, .int J87_l2), (3, .int J87_l3), (5, .int J87_l5), (6, .int J87_l6)]) hx hb dX7_walk_236 hl (k := 4) rfl (by rw [ez11]; rfl) (Nat.le_of_ble_eq_true rfl) rfl (fun ls hl => ?_)
                have h12 := ib_add hK87_J45_l4 (ib_c 1 1 1 rfl) rfl
                rw [← ez11] at h12
                have h13 : ib z11 1 300 := ib_w 1 300 h12.1 rfl
                have Ez11 := lf_add h12.2 (lf_rf J45_l4) (lf_lc 1 (1 : Int) rfl)
                refine lv_goto (tgt := 45) hx hb dX7_walk_239 rfl ?_
                exact ih45 J87_l3 J87_a1 J87_l2 z11 J87_l1 J87_c0_14 J87_c0_15 J87_c0_16 J87_a7 J87_a10 J87_a16 H locs ls (ib_w 0 300 h13 rfl) (by rw [← hK45]; rw [lf_u Ez11]; exact hq) (by have := h12.2; have : (1 : Int32).toInt = 1 := rfl; omega) hP hD hS (lv_sub hl [1, 2, 3, 4, 0] rfl)
              · as_aux_lemma =>
                  replace hq := lf_neg hq (lf_nle (lf_rf x_this_plan_walkers) (lf_rf J87_l6) c9)
                  have h14 := ib_nle hx_this_plan_walkers hJ87_l6 c9
                  have h15 : ib x_this_plan_walkers 1 12 := ib_w 1 12 h14.1 rfl
                  have h16 : ib J87_l6 0 11 := ib_w 0 11 h14.2 rfl
                  refine lv_iconst (v := 1) hx hb dX7_walk_99 rfl ?_
                  refine lv_iload hx hb dX7_walk_100 (lv_at hl 6 rfl) ?_
                  refine lv_ishl hx hb dX7_walk_102 ?_
                  refine lv_topi (fun z17 ez17 => ?_)
                  have Ez17 := lf_op lf_ishl ez17 (lf_lc 1 (1 : Int) rfl) (lf_rf J87_l6)
                  refine lv_istore (lv' := [(7, .int z17), (0, .ref a_this), (1, .int J87_l1), (2, .int J87_l2), (3, .int J87_l3), (4, .int J45_l4), (5, .int J87_l5), (6, .int J87_l6)]) hx hb dX7_walk_103 hl (Nat.le_of_ble_eq_true rfl) rfl (fun ls hl => ?_)
                  refine lv_iload_n hx hb dX7_walk_105 rfl (lv_at hl 3 rfl) ?_
                  refine lv_iload hx hb dX7_walk_106 (lv_at hl 0 rfl) ?_
                  refine lv_iand hx hb dX7_walk_108 ?_
                  refine lv_topi (fun z18 ez18 => ?_)
                  have Ez18 := lf_op lf_iand ez18 (lf_rf J87_l2) Ez17
                  refine lv_if_ne (tgt := 115) hx hb dX7_walk_109 rfl (fun c19 => ?_) (fun c19 => ?_)
                  · as_aux_lemma =>
                      replace hq := lf_neg hq (lf_ne Ez18 (lf_lc 0 (0 : Int) rfl) c19)
                      refine lv_aload_n hx hb dX7_walk_115 rfl (lv_at hl 1 rfl) ?_
                      refine k_get C0 fg_X7_63 hP 0 rfl rfl dX7_walk_116 ?_
                      refine k_get C0 fg_X7_146 hP 2 rfl rfl dX7_walk_119 ?_
                      refine lv_aload_n hx hb dX7_walk_122 rfl (lv_at hl 1 rfl) ?_
                      refine k_get C0 fg_X7_63 hP 0 rfl rfl dX7_walk_123 ?_
                      refine k_get C0 fg_X7_140 hP 2 rfl rfl dX7_walk_126 ?_
                      refine lv_iload hx hb dX7_walk_129 (lv_at hl 7 rfl) ?_
                      refine va_iald hx hb C0.2.2.2.2.2.1 hP 4 0 rfl rfl (ib_in 12 h16 rfl) dX7_walk_131 ?_
                      refine lv_topi (fun z20 ez20 => ?_)
                      have h21 : ib z20 0 5 := by rw [ez20]; exact ia_at hg_this_plan_kindOf (ib_in 12 h16 rfl)
                      have Ez20 := lf_ld ez20 (lf_ra g_this_plan_kindOf) (lf_rf J87_l6)
                      refine va_iald hx hb C0.2.2.2.2.2.1 hP 5 0 rfl rfl (ib_in 6 h21 rfl) dX7_walk_132 ?_
                      refine lv_topi (fun z22 ez22 => ?_)
                      have Ez22 := lf_ld ez22 (lf_ra g_this_plan_pace) Ez20
                      refine lv_istore (lv' := [(8, .int z22), (7, .int z17), (0, .ref a_this), (1, .int J87_l1), (2, .int J87_l2), (3, .int J87_l3), (4, .int J45_l4), (5, .int J87_l5), (6, .int J87_l6)]) hx hb dX7_walk_133 hl (Nat.le_of_ble_eq_true rfl) rfl (fun ls hl => ?_)
                      refine lv_aload_n hx hb dX7_walk_135 rfl (lv_at hl 2 rfl) ?_
                      refine k_get C0 fg_X7_41 hP 0 rfl rfl dX7_walk_136 ?_
                      refine lv_iload hx hb dX7_walk_139 (lv_at hl 6 rfl) ?_
                      refine va_iald hx hb C0.2.2.2.2.2.1 hP 6 0 rfl rfl (ib_in 300 hK87_J45_l4 rfl) dX7_walk_141 ?_
                      refine lv_topi (fun z23 ez23 => ?_)
                      have Ez23 := lf_ld ez23 (lf_ra g_this_left) (lf_rf J45_l4)
                      refine lv_iload hx hb dX7_walk_142 (lv_at hl 0 rfl) ?_
                      refine lv_icmp_lt (tgt := 161) hx hb dX7_walk_144 rfl (fun c24 => ?_) (fun c24 => ?_)
                      · as_aux_lemma =>
                          replace hq := lf_pos hq (lf_lt Ez23 Ez22 c24)
                          have h25 := ib_lt (ib_any z23) (ib_any z22) c24
                          have h26 : ib z23 (-2147483648) 2147483646 := ib_w (-2147483648) 2147483646 h25.1 rfl
                          have h27 : ib z22 (-2147483647) 2147483647 := ib_w (-2147483647) 2147483647 h25.2 rfl
                          refine lv_aload_n hx hb dX7_walk_161 rfl (lv_at hl 2 rfl) ?_
                          refine lv_iload hx hb dX7_walk_162 (lv_at hl 8 rfl) ?_
                          refine lv_iload hx hb dX7_walk_164 (lv_at hl 6 rfl) ?_
                          refine lv_iload_n hx hb dX7_walk_166 rfl (lv_at hl 3 rfl) ?_
                          refine k_jim hP hD hS hA [0, 7, 8, 9, 10, 2, 11, 4, 12, 13, 5, 14, 15, 16] [false, true, false, true, false, false, true] rfl rfl (by decide +kernel) 0 0 (Nat.le_of_ble_eq_true rfl) (Nat.le_of_ble_eq_true rfl) (fun hPc hDc => k_runV (As := [.int J87_l6, .int J45_l4, .int J87_l1]) (rest := []) C0 hZ hS hA (s_X7_goes l dC dI cy sq a_this a_this_machine a_this_machine_facts J87_a10 a_this_machine_stack J87_a16 a_this_plan x_this_plan_cycle x_this_plan_green x_this_plan_rule x_this_plan_least x_this_plan_away x_this_plan_statements x_this_plan_kinds a_this_plan_calm g_this_plan_calm a_this_plan_pace g_this_plan_pace a_this_plan_trusts x_this_plan_walkers a_this_plan_kindOf g_this_plan_kindOf a_this_plan_comesAt g_this_plan_comesAt a_this_plan_comers a_this_plan_names a_this_plan_code g_this_plan_code x_this_plan_size a_this_plan_spans g_this_plan_spans x_this_day a_this_trusts g_this_trusts x_this_rule x_this_green x_this_absent x_this_asksReds a_this_cars a_this_gaps g_this_gaps a_this_known J87_a7 a_this_left a_this_leaves x_this_pressed J87_c0_14 J87_c0_15 J87_c0_16 J87_l6 J45_l4 J87_l1 hg_this_plan_kindOf hg_this_plan_comesAt hg_this_plan_spans (ib_w 0 1 hx_this_asksReds rfl) (ib_w 0 11 h16 rfl) (ib_w 0 299 hK87_J45_l4 rfl)) mV_X7_149 hPc hDc rfl rfl rfl hl rfl rfl (Nat.le_of_ble_eq_true rfl) ⟨(Nat.le_of_ble_eq_true rfl), (Nat.le_of_ble_eq_true rfl)⟩ ⟨(Nat.le_of_ble_eq_true rfl), (Nat.le_of_ble_eq_true rfl)⟩ dX7_walk_167) (fun r28 u29 H locs hw hP hD hS => ?_)
                          obtain ⟨f30, f31, f32⟩ := u29
                          try dsimp only at hP hD hw
                          replace hP : va_P (dC, dI) vwCl [(wi_0_12_0 a_this_leaves cy J87_a1), (wi_0_200_0 a_this_plan_comers cy g_this_plan_comers), (wi_0_300_0 a_this_left cy g_this_left), (wo_7_rririiiirrrrriiii a_this a_this_machine a_this_plan x_this_day a_this_trusts x_this_rule x_this_green x_this_absent x_this_asksReds a_this_cars a_this_gaps a_this_known a_this_left a_this_leaves x_this_pressed J87_c0_14 J87_c0_15 J87_c0_16), (wi_0_3600_0 a_this_known cy f30), (wo_3_rr a_this_machine a_this_machine_facts a_this_machine_stack), (wi_0_320_0 a_this_gaps cy g_this_gaps), (wi_0_13_0 a_this_machine_facts cy f31), (wo_4_iiiiiiirrrirrrrrir a_this_plan x_this_plan_cycle x_this_plan_green x_this_plan_rule x_this_plan_least x_this_plan_away x_this_plan_statements x_this_plan_kinds a_this_plan_calm a_this_plan_pace a_this_plan_trusts x_this_plan_walkers a_this_plan_kindOf a_this_plan_comesAt a_this_plan_comers a_this_plan_names a_this_plan_code x_this_plan_size a_this_plan_spans), (wi_0_12_0 a_this_plan_comesAt cy g_this_plan_comesAt), (wi_0_12_0 a_this_plan_kindOf cy g_this_plan_kindOf), (wi_0_6_0 a_this_trusts cy g_this_trusts), (wi_0_6_0 a_this_plan_calm cy g_this_plan_calm), (wi_0_6_0 a_this_plan_pace cy g_this_plan_pace), (wi_0_6_0 a_this_plan_spans cy g_this_plan_spans), (wi_0_1600_0 a_this_plan_code cy g_this_plan_code), (wi_0_64_0 a_this_machine_stack cy f32)] H := hP
                          replace hD := k_D hP hD
                          obtain ⟨h33, h34⟩ := hw
                          replace hq := lf_p1 hq h34
                          replace hq := lf_p1 hq rfl
                          replace hq := lf_p1 hq rfl
                          refine lv_if_eq (tgt := 230) hx hb dX7_walk_170 rfl (fun c35 => ?_) (fun c35 => ?_)
                          · replace hq := lf_pos hq (lf_eq (lf_rf r28) (lf_lc 0 (0 : Int) rfl) c35)
                            have h36 := ib_eq h33 (ib_c 0 0 0 rfl) c35
                            have h37 : ib r28 0 0 := ib_w 0 0 h36.1 rfl
                            exact jn230 z17 f30 f31 f32 J87_l1 J87_l2 J87_c0_14 J87_c0_15 J87_c0_16 J87_a1 H locs ls (ib_w 0 299 hK87_J45_l4 rfl) (ib_w 0 11 h16 rfl) (ib_w 1 12 h15 rfl) (by rw [lf_u Ez17]; exact hq) (hP.sub [3, 0, 8, 1, 10, 13, 2, 4, 5, 6, 7, 9, 11, 12, 14, 15, 16] rfl) (hD.sub [3, 0, 8, 1, 10, 13, 2, 4, 5, 6, 7, 9, 11, 12, 14, 15, 16] (by decide +kernel) rfl) hS (lv_sub hl [2, 3, 4, 5, 6, 7, 8, 1] rfl)
                          · as_aux_lemma =>
                              replace hq := lf_neg hq (lf_ne (lf_rf r28) (lf_lc 0 (0 : Int) rfl) c35)
                              have h38 : ib r28 1 1 := ib_w 1 1 (ib_ne_lo 0 h33 rfl c35) rfl
                              refine lv_aload_n hx hb dX7_walk_173 rfl (lv_at hl 2 rfl) ?_
                              refine lv_dup hx hb dX7_walk_174 rfl ?_
                              refine k_get C0 fg_X7_53 hP 3 rfl rfl dX7_walk_175 ?_
                              refine lv_iload hx hb dX7_walk_178 (lv_at hl 1 rfl) ?_
                              refine lv_ior hx hb dX7_walk_180 ?_
                              refine lv_topi (fun z39 ez39 => ?_)
                              have Ez39 := lf_op lf_ior ez39 (lf_rf J87_c0_15) Ez17
                              refine k_put C0 fp_X7_53 hP hD hS 3 rfl rfl rfl (Nat.le_of_ble_eq_true rfl) dX7_walk_181 (fun H locs hP hD hS => ?_)
                              replace hP : va_P (dC, dI) vwCl [(wi_0_12_0 a_this_leaves cy J87_a1), (wi_0_200_0 a_this_plan_comers cy g_this_plan_comers), (wi_0_300_0 a_this_left cy g_this_left), (wo_7_rririiiirrrrriiii a_this a_this_machine a_this_plan x_this_day a_this_trusts x_this_rule x_this_green x_this_absent x_this_asksReds a_this_cars a_this_gaps a_this_known a_this_left a_this_leaves x_this_pressed J87_c0_14 z39 J87_c0_16), (wi_0_3600_0 a_this_known cy f30), (wo_3_rr a_this_machine a_this_machine_facts a_this_machine_stack), (wi_0_320_0 a_this_gaps cy g_this_gaps), (wi_0_13_0 a_this_machine_facts cy f31), (wo_4_iiiiiiirrrirrrrrir a_this_plan x_this_plan_cycle x_this_plan_green x_this_plan_rule x_this_plan_least x_this_plan_away x_this_plan_statements x_this_plan_kinds a_this_plan_calm a_this_plan_pace a_this_plan_trusts x_this_plan_walkers a_this_plan_kindOf a_this_plan_comesAt a_this_plan_comers a_this_plan_names a_this_plan_code x_this_plan_size a_this_plan_spans), (wi_0_12_0 a_this_plan_comesAt cy g_this_plan_comesAt), (wi_0_12_0 a_this_plan_kindOf cy g_this_plan_kindOf), (wi_0_6_0 a_this_trusts cy g_this_trusts), (wi_0_6_0 a_this_plan_calm cy g_this_plan_calm), (wi_0_6_0 a_this_plan_pace cy g_this_plan_pace), (wi_0_6_0 a_this_plan_spans cy g_this_plan_spans), (wi_0_1600_0 a_this_plan_code cy g_this_plan_code), (wi_0_64_0 a_this_machine_stack cy f32)] H := hP
                              replace hD := k_D hP hD
                              refine lv_aload_n hx hb dX7_walk_184 rfl (lv_at hl 2 rfl) ?_
                              refine lv_dup hx hb dX7_walk_185 rfl ?_
                              refine k_get C0 fg_X7_56 hP 3 rfl rfl dX7_walk_186 ?_
                              refine lv_aload_n hx hb dX7_walk_189 rfl (lv_at hl 2 rfl) ?_
                              refine k_get C0 fg_X7_35 hP 3 rfl rfl dX7_walk_190 ?_
                              refine lv_iload hx hb dX7_walk_193 (lv_at hl 6 rfl) ?_
                              refine va_iald hx hb C0.2.2.2.2.2.1 hP 6 0 rfl rfl (ib_in 320 hK87_J45_l4 rfl) dX7_walk_195 ?_
                              refine lv_topi (fun z40 ez40 => ?_)
                              have Ez40 := lf_ld ez40 (lf_ra g_this_gaps) (lf_rf J45_l4)
                              refine lv_iload hx hb dX7_walk_196 (lv_at hl 0 rfl) ?_
                              refine lv_icmp_ge (tgt := 206) hx hb dX7_walk_198 rfl (fun c41 => ?_) (fun c41 => ?_)
                              · replace hq := lf_pos hq (lf_le Ez22 Ez40 c41)
                                have h42 := ib_le h27 (ib_any z40) c41
                                have h43 : ib z40 (-2147483647) 2147483647 := ib_w (-2147483647) 2147483647 h42.2 rfl
                                refine lv_iconst (v := 0) hx hb dX7_walk_206 rfl ?_
                                exact jn207 z17 z22 z39 f30 f31 f32 0 H locs ls (ib_w 0 299 hK87_J45_l4 rfl) (ib_w 0 11 h16 rfl) (ib_w (-2147483647) 2147483647 h27 rfl) (ib_w 1 12 h15 rfl) (by rw [lf_u Ez17]; rw [lf_u Ez22]; rw [lf_u Ez39]; try simp only [show (0 : Int32).toInt = (0 : Int) from rfl]; exact hq) (hP.sub [3, 0, 8, 1, 10, 13, 2, 4, 5, 6, 7, 9, 11, 12, 14, 15, 16] rfl) (hD.sub [3, 0, 8, 1, 10, 13, 2, 4, 5, 6, 7, 9, 11, 12, 14, 15, 16] (by decide +kernel) rfl) hS (lv_sub hl [2, 3, 4, 5, 6, 7, 8, 1, 0] rfl)
                              · replace hq := lf_neg hq (lf_nle Ez22 Ez40 c41)
                                have h44 := ib_nle h27 (ib_any z40) c41
                                have h45 : ib z40 (-2147483648) 2147483646 := ib_w (-2147483648) 2147483646 h44.2 rfl
                                refine lv_iload hx hb dX7_walk_201 (lv_at hl 1 rfl) ?_
                                refine lv_goto (tgt := 207) hx hb dX7_walk_203 rfl ?_
                                exact jn207 z17 z22 z39 f30 f31 f32 z17 H locs ls (ib_w 0 299 hK87_J45_l4 rfl) (ib_w 0 11 h16 rfl) (ib_w (-2147483647) 2147483647 h27 rfl) (ib_w 1 12 h15 rfl) (by rw [lf_u Ez17]; rw [lf_u Ez22]; rw [lf_u Ez39]; exact hq) (hP.sub [3, 0, 8, 1, 10, 13, 2, 4, 5, 6, 7, 9, 11, 12, 14, 15, 16] rfl) (hD.sub [3, 0, 8, 1, 10, 13, 2, 4, 5, 6, 7, 9, 11, 12, 14, 15, 16] (by decide +kernel) rfl) hS (lv_sub hl [2, 3, 4, 5, 6, 7, 8, 1, 0] rfl)
                      · replace hq := lf_neg hq (lf_nlt Ez23 Ez22 c24)
                        have h46 := ib_nlt (ib_any z23) (ib_any z22) c24
                        refine lv_aload_n hx hb dX7_walk_147 rfl (lv_at hl 2 rfl) ?_
                        refine lv_dup hx hb dX7_walk_148 rfl ?_
                        refine k_get C0 fg_X7_50 hP 0 rfl rfl dX7_walk_149 ?_
                        refine lv_iload hx hb dX7_walk_152 (lv_at hl 1 rfl) ?_
                        refine lv_ior hx hb dX7_walk_154 ?_
                        refine lv_topi (fun z47 ez47 => ?_)
                        have Ez47 := lf_op lf_ior ez47 (lf_rf J87_c0_14) Ez17
                        refine k_put C0 fp_X7_50 hP hD hS 0 rfl rfl rfl (Nat.le_of_ble_eq_true rfl) dX7_walk_155 (fun H locs hP hD hS => ?_)
                        replace hP : va_P (dC, dI) vwCl [(wo_7_rririiiirrrrriiii a_this a_this_machine a_this_plan x_this_day a_this_trusts x_this_rule x_this_green x_this_absent x_this_asksReds a_this_cars a_this_gaps a_this_known a_this_left a_this_leaves x_this_pressed z47 J87_c0_15 J87_c0_16), (wi_0_12_0 a_this_leaves cy J87_a1), (wo_4_iiiiiiirrrirrrrrir a_this_plan x_this_plan_cycle x_this_plan_green x_this_plan_rule x_this_plan_least x_this_plan_away x_this_plan_statements x_this_plan_kinds a_this_plan_calm a_this_plan_pace a_this_plan_trusts x_this_plan_walkers a_this_plan_kindOf a_this_plan_comesAt a_this_plan_comers a_this_plan_names a_this_plan_code x_this_plan_size a_this_plan_spans), (wi_0_200_0 a_this_plan_comers cy g_this_plan_comers), (wi_0_12_0 a_this_plan_kindOf cy g_this_plan_kindOf), (wi_0_6_0 a_this_plan_pace cy g_this_plan_pace), (wi_0_300_0 a_this_left cy g_this_left), (wi_0_3600_0 a_this_known cy J87_a7), (wo_3_rr a_this_machine a_this_machine_facts a_this_machine_stack), (wi_0_320_0 a_this_gaps cy g_this_gaps), (wi_0_13_0 a_this_machine_facts cy J87_a10), (wi_0_12_0 a_this_plan_comesAt cy g_this_plan_comesAt), (wi_0_6_0 a_this_trusts cy g_this_trusts), (wi_0_6_0 a_this_plan_calm cy g_this_plan_calm), (wi_0_6_0 a_this_plan_spans cy g_this_plan_spans), (wi_0_1600_0 a_this_plan_code cy g_this_plan_code), (wi_0_64_0 a_this_machine_stack cy J87_a16)] H := hP
                        replace hD := k_D hP hD
                        refine lv_goto (tgt := 214) hx hb dX7_walk_158 rfl ?_
                        exact jn214 z17 z22 z47 J87_l1 J87_c0_15 J87_c0_16 J87_a7 J87_a10 J87_a16 H locs ls (ib_w 0 299 hK87_J45_l4 rfl) (ib_w 0 11 h16 rfl) (ib_w 1 12 h15 rfl) (by rw [lf_u Ez17]; rw [lf_u Ez22]; rw [lf_u Ez47]; exact hq) hP hD hS (lv_sub hl [2, 3, 4, 5, 6, 7, 8, 1, 0] rfl)
                  · replace hq := lf_pos hq (lf_eq Ez18 (lf_lc 0 (0 : Int) rfl) c19)
                    have h48 := ib_eq (ib_any z18) (ib_c 0 0 0 rfl) c19
                    have h49 : ib z18 0 0 := ib_w 0 0 h48.1 rfl
                    refine lv_goto (tgt := 230) hx hb dX7_walk_112 rfl ?_
                    exact jn230 z17 J87_a7 J87_a10 J87_a16 J87_l1 J87_l2 J87_c0_14 J87_c0_15 J87_c0_16 J87_a1 H locs ls (ib_w 0 299 hK87_J45_l4 rfl) (ib_w 0 11 h16 rfl) (ib_w 1 12 h15 rfl) (by rw [lf_u Ez17]; exact hq) hP hD hS (lv_sub hl [1, 2, 3, 4, 5, 6, 7, 0] rfl)
        refine lv_iload hx hb dX7_walk_45 (lv_at hl 4 rfl) ?_
        refine lv_sipush (v := 300) hx hb dX7_walk_47 rfl ?_
        refine lv_icmp_ge (tgt := 242) hx hb dX7_walk_50 rfl (fun c50 => ?_) (fun c50 => ?_)
        · replace hq := lf_pos hq (lf_le (lf_lc 300 (300 : Int) rfl) (lf_rf J45_l4) c50)
          have h51 := ib_le (ib_c 300 300 300 rfl) hJ45_l4 c50
          have h52 : ib J45_l4 300 300 := ib_w 300 300 h51.2 rfl
          subst hQ; exact k_vret hx hb hr hlk ((J45_c0_14, J45_c0_15, J45_c0_16, J45_a1, J45_a7, J45_a10, J45_a16)) hS ((hO.symm.trans (by exact hq))) hP hD (Nat.le_of_ble_eq_true rfl) (Nat.le_of_ble_eq_true rfl) dX7_walk_242
        · as_aux_lemma =>
            replace hq := lf_neg hq (lf_nle (lf_lc 300 (300 : Int) rfl) (lf_rf J45_l4) c50)
            have h53 := ib_nle (ib_c 300 300 300 rfl) hJ45_l4 c50
            have h54 : ib J45_l4 0 299 := ib_w 0 299 h53.2 rfl
            refine lv_iload_n hx hb dX7_walk_53 rfl (lv_at hl 2 rfl) ?_
            refine lv_iload_n hx hb dX7_walk_54 rfl (lv_at hl 3 rfl) ?_
            refine lv_ior hx hb dX7_walk_55 ?_
            refine lv_topi (fun z55 ez55 => ?_)
            have Ez55 := lf_op lf_ior ez55 (lf_rf J45_l2) (lf_rf J45_l3)
            refine lv_if_eq (tgt := 242) hx hb dX7_walk_56 rfl (fun c56 => ?_) (fun c56 => ?_)
            · replace hq := lf_pos hq (lf_eq Ez55 (lf_lc 0 (0 : Int) rfl) c56)
              have h57 := ib_eq (ib_any z55) (ib_c 0 0 0 rfl) c56
              have h58 : ib z55 0 0 := ib_w 0 0 h57.1 rfl
              subst hQ; exact k_vret hx hb hr hlk ((J45_c0_14, J45_c0_15, J45_c0_16, J45_a1, J45_a7, J45_a10, J45_a16)) hS ((hO.symm.trans (by exact hq))) hP hD (Nat.le_of_ble_eq_true rfl) (Nat.le_of_ble_eq_true rfl) dX7_walk_242
            · as_aux_lemma =>
                replace hq := lf_neg hq (lf_ne Ez55 (lf_lc 0 (0 : Int) rfl) c56)
                refine lv_aload_n hx hb dX7_walk_59 rfl (lv_at hl 0 rfl) ?_
                refine k_get C0 fg_X7_63 hP 0 rfl rfl dX7_walk_60 ?_
                refine lv_iload hx hb dX7_walk_63 (lv_at hl 4 rfl) ?_
                refine k_jim hP hD hS hA [2, 3] [true, true, false, false, true, true, true, true, true, true, true, true, true, true, true, true, true] rfl rfl (by decide +kernel) 0 0 (Nat.le_of_ble_eq_true rfl) (Nat.le_of_ble_eq_true rfl) (fun hPc hDc => k_runV (As := [.int J45_l4]) (rest := []) C0 hZ hS hA (s_X4_comersIn l dC dI cy sq a_this_plan x_this_plan_cycle x_this_plan_green x_this_plan_rule x_this_plan_least x_this_plan_away x_this_plan_statements x_this_plan_kinds a_this_plan_calm a_this_plan_pace a_this_plan_trusts x_this_plan_walkers a_this_plan_kindOf a_this_plan_comesAt a_this_plan_comers g_this_plan_comers a_this_plan_names a_this_plan_code x_this_plan_size a_this_plan_spans J45_l4 ) mV_X7_127 hPc hDc rfl rfl rfl hl rfl rfl (Nat.le_of_ble_eq_true rfl) ⟨(Nat.le_of_ble_eq_true rfl), (Nat.le_of_ble_eq_true rfl)⟩ ⟨(Nat.le_of_ble_eq_true rfl), (Nat.le_of_ble_eq_true rfl)⟩ dX7_walk_65) (fun r59 u60 H locs hw hP hD hS => ?_)
                try dsimp only at hP hD hw
                replace hP : va_P (dC, dI) vwCl [(wo_7_rririiiirrrrriiii a_this a_this_machine a_this_plan x_this_day a_this_trusts x_this_rule x_this_green x_this_absent x_this_asksReds a_this_cars a_this_gaps a_this_known a_this_left a_this_leaves x_this_pressed J45_c0_14 J45_c0_15 J45_c0_16), (wi_0_12_0 a_this_leaves cy J45_a1), (wi_0_12_0 a_this_plan_kindOf cy g_this_plan_kindOf), (wi_0_6_0 a_this_plan_pace cy g_this_plan_pace), (wi_0_300_0 a_this_left cy g_this_left), (wi_0_3600_0 a_this_known cy J45_a7), (wo_3_rr a_this_machine a_this_machine_facts a_this_machine_stack), (wi_0_320_0 a_this_gaps cy g_this_gaps), (wi_0_13_0 a_this_machine_facts cy J45_a10), (wi_0_12_0 a_this_plan_comesAt cy g_this_plan_comesAt), (wi_0_6_0 a_this_trusts cy g_this_trusts), (wi_0_6_0 a_this_plan_calm cy g_this_plan_calm), (wi_0_6_0 a_this_plan_spans cy g_this_plan_spans), (wi_0_1600_0 a_this_plan_code cy g_this_plan_code), (wi_0_64_0 a_this_machine_stack cy J45_a16), (wo_4_iiiiiiirrrirrrrrir a_this_plan x_this_plan_cycle x_this_plan_green x_this_plan_rule x_this_plan_least x_this_plan_away x_this_plan_statements x_this_plan_kinds a_this_plan_calm a_this_plan_pace a_this_plan_trusts x_this_plan_walkers a_this_plan_kindOf a_this_plan_comesAt a_this_plan_comers a_this_plan_names a_this_plan_code x_this_plan_size a_this_plan_spans), (wi_0_200_0 a_this_plan_comers cy g_this_plan_comers)] H := hP
                replace hD := k_D hP hD
                have h61 := hw
                replace hq := lf_b1 hq h61
                refine lv_iload_n hx hb dX7_walk_68 rfl (lv_at hl 3 rfl) ?_
                refine lv_iand hx hb dX7_walk_69 ?_
                refine lv_topi (fun z62 ez62 => ?_)
                have Ez62 := lf_op lf_iand ez62 (lf_rf r59) (lf_rf J45_l3)
                refine lv_istore (lv' := [(5, .int z62), (0, .ref a_this), (1, .int J45_l1), (2, .int J45_l2), (3, .int J45_l3), (4, .int J45_l4)]) hx hb dX7_walk_70 hl (Nat.le_of_ble_eq_true rfl) rfl (fun ls hl => ?_)
                refine lv_iload_n hx hb dX7_walk_72 rfl (lv_at hl 4 rfl) ?_
                refine lv_iload hx hb dX7_walk_73 (lv_at hl 0 rfl) ?_
                refine lv_iconst (v := (-1)) hx hb dX7_walk_75 rfl ?_
                refine lv_ixor hx hb dX7_walk_76 ?_
                refine lv_topi (fun z63 ez63 => ?_)
                have Ez63 := lf_op lf_ixor ez63 Ez62 (lf_lc (-1) (-1 : Int) rfl)
                refine lv_iand hx hb dX7_walk_77 ?_
                refine lv_topi (fun z64 ez64 => ?_)
                have Ez64 := lf_op lf_iand ez64 (lf_rf J45_l3) Ez63
                refine lv_istore_n (lv' := [(3, .int z64), (5, .int z62), (0, .ref a_this), (1, .int J45_l1), (2, .int J45_l2), (4, .int J45_l4)]) hx hb dX7_walk_78 rfl hl (Nat.le_of_ble_eq_true rfl) rfl (fun ls hl => ?_)
                refine lv_iload_n hx hb dX7_walk_79 rfl (lv_at hl 4 rfl) ?_
                refine lv_iload hx hb dX7_walk_80 (lv_at hl 1 rfl) ?_
                refine lv_ior hx hb dX7_walk_82 ?_
                refine lv_topi (fun z65 ez65 => ?_)
                have Ez65 := lf_op lf_ior ez65 (lf_rf J45_l2) Ez62
                refine lv_istore_n (lv' := [(2, .int z65), (3, .int z64), (5, .int z62), (0, .ref a_this), (1, .int J45_l1), (4, .int J45_l4)]) hx hb dX7_walk_83 rfl hl (Nat.le_of_ble_eq_true rfl) rfl (fun ls hl => ?_)
                refine lv_iconst (v := 0) hx hb dX7_walk_84 rfl ?_
                refine lv_istore (lv' := [(6, .int 0), (2, .int z65), (3, .int z64), (5, .int z62), (0, .ref a_this), (1, .int J45_l1), (4, .int J45_l4)]) hx hb dX7_walk_85 hl (Nat.le_of_ble_eq_true rfl) rfl (fun ls hl => ?_)
                exact jn87 14 z65 z64 z62 J45_l1 0 J45_c0_14 J45_c0_15 J45_c0_16 J45_a1 J45_a7 J45_a10 J45_a16 H locs ls (ib_w 0 299 h54 rfl) (ib_w 0 12 (ib_c 0 0 0 rfl) rfl) (by rw [lf_u Ez65]; rw [lf_u Ez64]; rw [lf_u Ez62]; try simp only [show (0 : Int32).toInt = (0 : Int) from rfl]; exact hq) (by have := (ib_c 0 0 0 rfl); unfold ib at this; omega) (hP.sub [0, 1, 15, 16, 2, 3, 4, 5, 6, 7, 8, 9, 10, 11, 12, 13, 14] rfl) (hD.sub [0, 1, 15, 16, 2, 3, 4, 5, 6, 7, 8, 9, 10, 11, 12, 13, 14] (by decide +kernel) rfl) hS (lv_sub hl [4, 5, 1, 2, 6, 3, 0] rfl)
  refine lv_aload_n hx hb dX7_walk_0 rfl (lv_at hl 0 rfl) ?_
  refine k_get C0 fg_X7_44 hP 0 rfl rfl dX7_walk_1 ?_
  refine lv_iconst (v := (-1)) hx hb dX7_walk_4 rfl ?_
  refine k_jvm hP hD hS hA [1] [true, false, true, true, true, true, true, true, true, true, true, true, true, true, true, true, true] rfl rfl (by decide +kernel) 0 0 (Nat.le_of_ble_eq_true rfl) (Nat.le_of_ble_eq_true rfl) (fun hPc hDc => k_runS (As := [.ref a_this_leaves, .int (-1)]) (rest := []) C0 hZ hS hA (c_fillx l dC dI cy sq a_this_leaves 12 g_this_leaves (-1) (Nat.le_of_ble_eq_true rfl)) mS_X7_96 hPc hDc hl rfl rfl (Nat.le_of_ble_eq_true rfl) ⟨(Nat.le_of_ble_eq_true rfl), (Nat.le_of_ble_eq_true rfl)⟩ ⟨(Nat.le_of_ble_eq_true rfl), (Nat.le_of_ble_eq_true rfl)⟩ dX7_walk_5) (fun u67 H locs hw hP hD hS => ?_)
  obtain ⟨f68, ef68⟩ : ∃ z, z = u67 := ⟨_, rfl⟩; subst ef68
  replace hP : va_P (dC, dI) vwCl [(wo_7_rririiiirrrrriiii a_this a_this_machine a_this_plan x_this_day a_this_trusts x_this_rule x_this_green x_this_absent x_this_asksReds a_this_cars a_this_gaps a_this_known a_this_left a_this_leaves x_this_pressed x_this_crossed x_this_went x_this_harmed), (wo_4_iiiiiiirrrirrrrrir a_this_plan x_this_plan_cycle x_this_plan_green x_this_plan_rule x_this_plan_least x_this_plan_away x_this_plan_statements x_this_plan_kinds a_this_plan_calm a_this_plan_pace a_this_plan_trusts x_this_plan_walkers a_this_plan_kindOf a_this_plan_comesAt a_this_plan_comers a_this_plan_names a_this_plan_code x_this_plan_size a_this_plan_spans), (wi_0_200_0 a_this_plan_comers cy g_this_plan_comers), (wi_0_12_0 a_this_plan_kindOf cy g_this_plan_kindOf), (wi_0_6_0 a_this_plan_pace cy g_this_plan_pace), (wi_0_300_0 a_this_left cy g_this_left), (wi_0_3600_0 a_this_known cy g_this_known), (wo_3_rr a_this_machine a_this_machine_facts a_this_machine_stack), (wi_0_320_0 a_this_gaps cy g_this_gaps), (wi_0_13_0 a_this_machine_facts cy g_this_machine_facts), (wi_0_12_0 a_this_plan_comesAt cy g_this_plan_comesAt), (wi_0_6_0 a_this_trusts cy g_this_trusts), (wi_0_6_0 a_this_plan_calm cy g_this_plan_calm), (wi_0_6_0 a_this_plan_spans cy g_this_plan_spans), (wi_0_1600_0 a_this_plan_code cy g_this_plan_code), (wi_0_64_0 a_this_machine_stack cy g_this_machine_stack), (wi_0_12_0 a_this_leaves cy f68)] H := hP
  replace hD := k_D hP hD
  have ef68 := hw
  have Ef68 := lf_fle ef68 (lf_ra g_this_leaves) (lf_lc (-1) (-1 : Int) rfl)
  refine lv_aload_n hx hb dX7_walk_8 rfl (lv_at hl 0 rfl) ?_
  refine lv_iconst (v := 0) hx hb dX7_walk_9 rfl ?_
  refine k_put C0 fp_X7_50 hP hD hS 0 rfl rfl rfl (Nat.le_of_ble_eq_true rfl) dX7_walk_10 (fun H locs hP hD hS => ?_)
  replace hP : va_P (dC, dI) vwCl [(wo_7_rririiiirrrrriiii a_this a_this_machine a_this_plan x_this_day a_this_trusts x_this_rule x_this_green x_this_absent x_this_asksReds a_this_cars a_this_gaps a_this_known a_this_left a_this_leaves x_this_pressed 0 x_this_went x_this_harmed), (wo_4_iiiiiiirrrirrrrrir a_this_plan x_this_plan_cycle x_this_plan_green x_this_plan_rule x_this_plan_least x_this_plan_away x_this_plan_statements x_this_plan_kinds a_this_plan_calm a_this_plan_pace a_this_plan_trusts x_this_plan_walkers a_this_plan_kindOf a_this_plan_comesAt a_this_plan_comers a_this_plan_names a_this_plan_code x_this_plan_size a_this_plan_spans), (wi_0_200_0 a_this_plan_comers cy g_this_plan_comers), (wi_0_12_0 a_this_plan_kindOf cy g_this_plan_kindOf), (wi_0_6_0 a_this_plan_pace cy g_this_plan_pace), (wi_0_300_0 a_this_left cy g_this_left), (wi_0_3600_0 a_this_known cy g_this_known), (wo_3_rr a_this_machine a_this_machine_facts a_this_machine_stack), (wi_0_320_0 a_this_gaps cy g_this_gaps), (wi_0_13_0 a_this_machine_facts cy g_this_machine_facts), (wi_0_12_0 a_this_plan_comesAt cy g_this_plan_comesAt), (wi_0_6_0 a_this_trusts cy g_this_trusts), (wi_0_6_0 a_this_plan_calm cy g_this_plan_calm), (wi_0_6_0 a_this_plan_spans cy g_this_plan_spans), (wi_0_1600_0 a_this_plan_code cy g_this_plan_code), (wi_0_64_0 a_this_machine_stack cy g_this_machine_stack), (wi_0_12_0 a_this_leaves cy f68)] H := hP
  replace hD := k_D hP hD
  refine lv_aload_n hx hb dX7_walk_13 rfl (lv_at hl 0 rfl) ?_
  refine lv_iconst (v := 0) hx hb dX7_walk_14 rfl ?_
  refine k_put C0 fp_X7_53 hP hD hS 0 rfl rfl rfl (Nat.le_of_ble_eq_true rfl) dX7_walk_15 (fun H locs hP hD hS => ?_)
  replace hP : va_P (dC, dI) vwCl [(wo_7_rririiiirrrrriiii a_this a_this_machine a_this_plan x_this_day a_this_trusts x_this_rule x_this_green x_this_absent x_this_asksReds a_this_cars a_this_gaps a_this_known a_this_left a_this_leaves x_this_pressed 0 0 x_this_harmed), (wo_4_iiiiiiirrrirrrrrir a_this_plan x_this_plan_cycle x_this_plan_green x_this_plan_rule x_this_plan_least x_this_plan_away x_this_plan_statements x_this_plan_kinds a_this_plan_calm a_this_plan_pace a_this_plan_trusts x_this_plan_walkers a_this_plan_kindOf a_this_plan_comesAt a_this_plan_comers a_this_plan_names a_this_plan_code x_this_plan_size a_this_plan_spans), (wi_0_200_0 a_this_plan_comers cy g_this_plan_comers), (wi_0_12_0 a_this_plan_kindOf cy g_this_plan_kindOf), (wi_0_6_0 a_this_plan_pace cy g_this_plan_pace), (wi_0_300_0 a_this_left cy g_this_left), (wi_0_3600_0 a_this_known cy g_this_known), (wo_3_rr a_this_machine a_this_machine_facts a_this_machine_stack), (wi_0_320_0 a_this_gaps cy g_this_gaps), (wi_0_13_0 a_this_machine_facts cy g_this_machine_facts), (wi_0_12_0 a_this_plan_comesAt cy g_this_plan_comesAt), (wi_0_6_0 a_this_trusts cy g_this_trusts), (wi_0_6_0 a_this_plan_calm cy g_this_plan_calm), (wi_0_6_0 a_this_plan_spans cy g_this_plan_spans), (wi_0_1600_0 a_this_plan_code cy g_this_plan_code), (wi_0_64_0 a_this_machine_stack cy g_this_machine_stack), (wi_0_12_0 a_this_leaves cy f68)] H := hP
  replace hD := k_D hP hD
  refine lv_aload_n hx hb dX7_walk_18 rfl (lv_at hl 0 rfl) ?_
  as_aux_lemma =>
    refine lv_iconst (v := 0) hx hb dX7_walk_19 rfl ?_
    refine k_put C0 fp_X7_56 hP hD hS 0 rfl rfl rfl (Nat.le_of_ble_eq_true rfl) dX7_walk_20 (fun H locs hP hD hS => ?_)
    replace hP : va_P (dC, dI) vwCl [(wo_7_rririiiirrrrriiii a_this a_this_machine a_this_plan x_this_day a_this_trusts x_this_rule x_this_green x_this_absent x_this_asksReds a_this_cars a_this_gaps a_this_known a_this_left a_this_leaves x_this_pressed 0 0 0), (wo_4_iiiiiiirrrirrrrrir a_this_plan x_this_plan_cycle x_this_plan_green x_this_plan_rule x_this_plan_least x_this_plan_away x_this_plan_statements x_this_plan_kinds a_this_plan_calm a_this_plan_pace a_this_plan_trusts x_this_plan_walkers a_this_plan_kindOf a_this_plan_comesAt a_this_plan_comers a_this_plan_names a_this_plan_code x_this_plan_size a_this_plan_spans), (wi_0_200_0 a_this_plan_comers cy g_this_plan_comers), (wi_0_12_0 a_this_plan_kindOf cy g_this_plan_kindOf), (wi_0_6_0 a_this_plan_pace cy g_this_plan_pace), (wi_0_300_0 a_this_left cy g_this_left), (wi_0_3600_0 a_this_known cy g_this_known), (wo_3_rr a_this_machine a_this_machine_facts a_this_machine_stack), (wi_0_320_0 a_this_gaps cy g_this_gaps), (wi_0_13_0 a_this_machine_facts cy g_this_machine_facts), (wi_0_12_0 a_this_plan_comesAt cy g_this_plan_comesAt), (wi_0_6_0 a_this_trusts cy g_this_trusts), (wi_0_6_0 a_this_plan_calm cy g_this_plan_calm), (wi_0_6_0 a_this_plan_spans cy g_this_plan_spans), (wi_0_1600_0 a_this_plan_code cy g_this_plan_code), (wi_0_64_0 a_this_machine_stack cy g_this_machine_stack), (wi_0_12_0 a_this_leaves cy f68)] H := hP
    replace hD := k_D hP hD
    refine lv_iconst (v := 0) hx hb dX7_walk_23 rfl ?_
    refine lv_istore_n (lv' := [(1, .int 0), (0, .ref a_this)]) hx hb dX7_walk_24 rfl hl (Nat.le_of_ble_eq_true rfl) rfl (fun ls hl => ?_)
    refine lv_iconst (v := 0) hx hb dX7_walk_25 rfl ?_
    refine lv_istore_n (lv' := [(2, .int 0), (1, .int 0), (0, .ref a_this)]) hx hb dX7_walk_26 rfl hl (Nat.le_of_ble_eq_true rfl) rfl (fun ls hl => ?_)
    refine lv_aload_n hx hb dX7_walk_27 rfl (lv_at hl 2 rfl) ?_
    refine k_get C0 fg_X7_63 hP 0 rfl rfl dX7_walk_28 ?_
    refine k_jim hP hD hS hA [1] [true, false, true, true, true, true, true, true, true, true, true, true, true, true, true, true, true] rfl rfl (by decide +kernel) 0 0 (Nat.le_of_ble_eq_true rfl) (Nat.le_of_ble_eq_true rfl) (fun hPc hDc => k_runV (As := []) (rest := []) C0 hZ hS hA (s_X4_everyone l dC dI cy sq a_this_plan x_this_plan_cycle x_this_plan_green x_this_plan_rule x_this_plan_least x_this_plan_away x_this_plan_statements x_this_plan_kinds a_this_plan_calm a_this_plan_pace a_this_plan_trusts x_this_plan_walkers a_this_plan_kindOf a_this_plan_comesAt a_this_plan_comers a_this_plan_names a_this_plan_code x_this_plan_size a_this_plan_spans ) mV_X7_143 hPc hDc rfl rfl rfl hl rfl rfl (Nat.le_of_ble_eq_true rfl) ⟨(Nat.le_of_ble_eq_true rfl), (Nat.le_of_ble_eq_true rfl)⟩ ⟨(Nat.le_of_ble_eq_true rfl), (Nat.le_of_ble_eq_true rfl)⟩ dX7_walk_31) (fun r69 u70 H locs hw hP hD hS => ?_)
    try dsimp only at hP hD hw
    replace hP : va_P (dC, dI) vwCl [(wo_7_rririiiirrrrriiii a_this a_this_machine a_this_plan x_this_day a_this_trusts x_this_rule x_this_green x_this_absent x_this_asksReds a_this_cars a_this_gaps a_this_known a_this_left a_this_leaves x_this_pressed 0 0 0), (wi_0_200_0 a_this_plan_comers cy g_this_plan_comers), (wi_0_12_0 a_this_plan_kindOf cy g_this_plan_kindOf), (wi_0_6_0 a_this_plan_pace cy g_this_plan_pace), (wi_0_300_0 a_this_left cy g_this_left), (wi_0_3600_0 a_this_known cy g_this_known), (wo_3_rr a_this_machine a_this_machine_facts a_this_machine_stack), (wi_0_320_0 a_this_gaps cy g_this_gaps), (wi_0_13_0 a_this_machine_facts cy g_this_machine_facts), (wi_0_12_0 a_this_plan_comesAt cy g_this_plan_comesAt), (wi_0_6_0 a_this_trusts cy g_this_trusts), (wi_0_6_0 a_this_plan_calm cy g_this_plan_calm), (wi_0_6_0 a_this_plan_spans cy g_this_plan_spans), (wi_0_1600_0 a_this_plan_code cy g_this_plan_code), (wi_0_64_0 a_this_machine_stack cy g_this_machine_stack), (wi_0_12_0 a_this_leaves cy f68), (wo_4_iiiiiiirrrirrrrrir a_this_plan x_this_plan_cycle x_this_plan_green x_this_plan_rule x_this_plan_least x_this_plan_away x_this_plan_statements x_this_plan_kinds a_this_plan_calm a_this_plan_pace a_this_plan_trusts x_this_plan_walkers a_this_plan_kindOf a_this_plan_comesAt a_this_plan_comers a_this_plan_names a_this_plan_code x_this_plan_size a_this_plan_spans)] H := hP
    replace hD := k_D hP hD
    have h71 := hw
    replace hq := lf_b1 hq h71
    refine lv_aload_n hx hb dX7_walk_34 rfl (lv_at hl 2 rfl) ?_
    refine k_get C0 fg_X7_25 hP 0 rfl rfl dX7_walk_35 ?_
    refine lv_iconst (v := (-1)) hx hb dX7_walk_38 rfl ?_
    refine lv_ixor hx hb dX7_walk_39 ?_
    refine lv_topi (fun z72 ez72 => ?_)
    have Ez72 := lf_op lf_ixor ez72 (lf_rf x_this_absent) (lf_lc (-1) (-1 : Int) rfl)
    refine lv_iand hx hb dX7_walk_40 ?_
    refine lv_topi (fun z73 ez73 => ?_)
    have Ez73 := lf_op lf_iand ez73 (lf_rf r69) Ez72
    refine lv_istore_n (lv' := [(3, .int z73), (2, .int 0), (1, .int 0), (0, .ref a_this)]) hx hb dX7_walk_41 rfl hl (Nat.le_of_ble_eq_true rfl) rfl (fun ls hl => ?_)
    refine lv_iconst (v := 0) hx hb dX7_walk_42 rfl ?_
    refine lv_istore (lv' := [(4, .int 0), (3, .int z73), (2, .int 0), (1, .int 0), (0, .ref a_this)]) hx hb dX7_walk_43 hl (Nat.le_of_ble_eq_true rfl) rfl (fun ls hl => ?_)
    exact jn45 302 z73 f68 0 0 0 0 0 0 g_this_known g_this_machine_facts g_this_machine_stack H locs ls (ib_w 0 300 (ib_c 0 0 0 rfl) rfl) (by rw [lf_u Ez73]; rw [lf_ua Ef68]; try simp only [show (0 : Int32).toInt = (0 : Int) from rfl]; exact hq) (by have := (ib_c 0 0 0 rfl); unfold ib at this; omega) (hP.sub [0, 15, 16, 1, 2, 3, 4, 5, 6, 7, 8, 9, 10, 11, 12, 13, 14] rfl) (hD.sub [0, 15, 16, 1, 2, 3, 4, 5, 6, 7, 8, 9, 10, 11, 12, 13, 14] (by decide +kernel) rfl) hS (lv_sub hl [4, 3, 2, 1, 0] rfl)
set_option maxHeartbeats 4000000 in
set_option maxRecDepth 100000 in
theorem s_X7_lay (l : Launch) (dC : Nat → ClassId) (dI : Nat → Nat → Nat) (cy : Nat → ClassId) (sq : Nat → Nat) (a_this : Nat) (a_this_machine : Nat) (a_this_machine_facts : Nat) (g_this_machine_facts : Nat → Int32) (a_this_machine_stack : Nat) (g_this_machine_stack : Nat → Int32) (a_this_plan : Nat) (x_this_plan_cycle : Int32) (x_this_plan_green : Int32) (x_this_plan_rule : Int32) (x_this_plan_least : Int32) (x_this_plan_away : Int32) (x_this_plan_statements : Int32) (x_this_plan_kinds : Int32) (a_this_plan_calm : Nat) (g_this_plan_calm : Nat → Int32) (a_this_plan_pace : Nat) (g_this_plan_pace : Nat → Int32) (a_this_plan_trusts : Nat) (x_this_plan_walkers : Int32) (a_this_plan_kindOf : Nat) (g_this_plan_kindOf : Nat → Int32) (a_this_plan_comesAt : Nat) (g_this_plan_comesAt : Nat → Int32) (a_this_plan_comers : Nat) (g_this_plan_comers : Nat → Int32) (a_this_plan_names : Nat) (a_this_plan_code : Nat) (g_this_plan_code : Nat → Int32) (x_this_plan_size : Int32) (a_this_plan_spans : Nat) (g_this_plan_spans : Nat → Int32) (x_this_day : Int32) (a_this_trusts : Nat) (g_this_trusts : Nat → Int32) (x_this_rule : Int32) (x_this_green : Int32) (x_this_absent : Int32) (x_this_asksReds : Int32) (a_this_cars : Nat) (g_this_cars : Nat → Int32) (a_this_gaps : Nat) (g_this_gaps : Nat → Int32) (a_this_known : Nat) (g_this_known : Nat → Int32) (a_this_left : Nat) (g_this_left : Nat → Int32) (a_this_leaves : Nat) (g_this_leaves : Nat → Int32) (x_this_pressed : Int32) (x_this_crossed : Int32) (x_this_went : Int32) (x_this_harmed : Int32) (a_arg0 : Nat) (x_arg0_day : Int32) (x_arg0_rule : Int32) (x_arg0_green : Int32) (a_arg0_trusts : Nat) (g_arg0_trusts : Nat → Int32) (p1 : Int32) (p2 : Int32) (p3 : Int32) (hx_this_plan_cycle : ib x_this_plan_cycle 0 120) (hx_this_plan_least : ib x_this_plan_least 0 99) (hx_this_plan_kinds : ib x_this_plan_kinds 0 6) (hx_this_plan_walkers : ib x_this_plan_walkers 0 12) (hg_this_plan_kindOf : ia g_this_plan_kindOf 12 0 5) (hg_this_plan_comesAt : ia g_this_plan_comesAt 12 0 199) (hg_this_plan_spans : ia g_this_plan_spans 6 0 1600) (hx_this_asksReds : ib x_this_asksReds 0 1) : k_Met l yX7_lay cX7_lay 5 none { frames := 5, cells := 0, slots := 0, locals := 125 } dC dI cy sq [.ref a_this, .ref a_arg0, .int p1, .int p2, .int p3] [(wo_7_rririiiirrrrriiii a_this a_this_machine a_this_plan x_this_day a_this_trusts x_this_rule x_this_green x_this_absent x_this_asksReds a_this_cars a_this_gaps a_this_known a_this_left a_this_leaves x_this_pressed x_this_crossed x_this_went x_this_harmed), (wo_4_iiiiiiirrrirrrrrir a_this_plan x_this_plan_cycle x_this_plan_green x_this_plan_rule x_this_plan_least x_this_plan_away x_this_plan_statements x_this_plan_kinds a_this_plan_calm a_this_plan_pace a_this_plan_trusts x_this_plan_walkers a_this_plan_kindOf a_this_plan_comesAt a_this_plan_comers a_this_plan_names a_this_plan_code x_this_plan_size a_this_plan_spans), (wo_6_iiir a_arg0 x_arg0_day x_arg0_rule x_arg0_green a_arg0_trusts), (wo_3_rr a_this_machine a_this_machine_facts a_this_machine_stack), (wi_0_13_0 a_this_machine_facts cy g_this_machine_facts), (wi_0_6_0 a_this_plan_spans cy g_this_plan_spans), (wi_0_1600_0 a_this_plan_code cy g_this_plan_code), (wi_0_64_0 a_this_machine_stack cy g_this_machine_stack), (wi_0_320_0 a_this_cars cy g_this_cars), (wi_0_320_0 a_this_gaps cy g_this_gaps), (wi_0_6_0 a_this_trusts cy g_this_trusts), (wi_0_6_0 a_arg0_trusts cy g_arg0_trusts), (wi_0_3600_0 a_this_known cy g_this_known), (wi_0_12_0 a_this_plan_kindOf cy g_this_plan_kindOf), (wi_0_200_0 a_this_plan_comers cy g_this_plan_comers), (wi_0_300_0 a_this_left cy g_this_left), (wi_0_12_0 a_this_leaves cy g_this_leaves), (wi_0_6_0 a_this_plan_pace cy g_this_plan_pace), (wi_0_12_0 a_this_plan_comesAt cy g_this_plan_comesAt), (wi_0_6_0 a_this_plan_calm cy g_this_plan_calm)] (k_Qv dC dI (fun (u : Int32 × Int32 × Int32 × Int32 × Int32 × Int32 × Int32 × Int32 × (Nat → Int32) × (Nat → Int32) × (Nat → Int32) × (Nat → Int32) × (Nat → Int32) × (Nat → Int32) × (Nat → Int32) × (Nat → Int32)) => match u with | (n0, n1, n2, n3, n4, n5, n6, n7, n8, n9, n10, n11, n12, n13, n14, n15) => (F_X7_lay (lf_A g_this_machine_facts) (lf_A g_this_machine_stack) (Int32.toInt x_this_plan_cycle) (Int32.toInt x_this_plan_least) (Int32.toInt x_this_plan_kinds) (lf_A g_this_plan_calm) (lf_A g_this_plan_pace) (Int32.toInt x_this_plan_walkers) (lf_A g_this_plan_kindOf) (lf_A g_this_plan_comesAt) (lf_A g_this_plan_comers) (lf_A g_this_plan_code) (lf_A g_this_plan_spans) (Int32.toInt x_this_day) (lf_A g_this_trusts) (Int32.toInt x_this_rule) (Int32.toInt x_this_green) (Int32.toInt x_this_absent) (Int32.toInt x_this_asksReds) (lf_A g_this_cars) (lf_A g_this_gaps) (lf_A g_this_known) (lf_A g_this_left) (lf_A g_this_leaves) (Int32.toInt x_this_pressed) (Int32.toInt x_this_crossed) (Int32.toInt x_this_went) (Int32.toInt x_this_harmed) (Int32.toInt x_arg0_day) (lf_A g_arg0_trusts) (Int32.toInt p1) (Int32.toInt p2) (Int32.toInt p3) = ((Int32.toInt n0), (Int32.toInt n1), (Int32.toInt n2), (Int32.toInt n3), (Int32.toInt n4), (Int32.toInt n5), (Int32.toInt n6), (Int32.toInt n7), (lf_A n8), (lf_A n9), (lf_A n10), (lf_A n11), (lf_A n12), (lf_A n13), (lf_A n14), (lf_A n15)))) (fun u : Int32 × Int32 × Int32 × Int32 × Int32 × Int32 × Int32 × Int32 × (Nat → Int32) × (Nat → Int32) × (Nat → Int32) × (Nat → Int32) × (Nat → Int32) × (Nat → Int32) × (Nat → Int32) × (Nat → Int32) => match u with | (n0, n1, n2, n3, n4, n5, n6, n7, n8, n9, n10, n11, n12, n13, n14, n15) => [(wo_7_rririiiirrrrriiii a_this a_this_machine a_this_plan n0 a_this_trusts n1 n2 n3 x_this_asksReds a_this_cars a_this_gaps a_this_known a_this_left a_this_leaves n4 n5 n6 n7), (wo_4_iiiiiiirrrirrrrrir a_this_plan x_this_plan_cycle x_this_plan_green x_this_plan_rule x_this_plan_least x_this_plan_away x_this_plan_statements x_this_plan_kinds a_this_plan_calm a_this_plan_pace a_this_plan_trusts x_this_plan_walkers a_this_plan_kindOf a_this_plan_comesAt a_this_plan_comers a_this_plan_names a_this_plan_code x_this_plan_size a_this_plan_spans), (wo_6_iiir a_arg0 x_arg0_day x_arg0_rule x_arg0_green a_arg0_trusts), (wo_3_rr a_this_machine a_this_machine_facts a_this_machine_stack), (wi_0_13_0 a_this_machine_facts cy n8), (wi_0_6_0 a_this_plan_spans cy g_this_plan_spans), (wi_0_1600_0 a_this_plan_code cy g_this_plan_code), (wi_0_64_0 a_this_machine_stack cy n9), (wi_0_320_0 a_this_cars cy n10), (wi_0_320_0 a_this_gaps cy n11), (wi_0_6_0 a_this_trusts cy n12), (wi_0_6_0 a_arg0_trusts cy g_arg0_trusts), (wi_0_3600_0 a_this_known cy n13), (wi_0_12_0 a_this_plan_kindOf cy g_this_plan_kindOf), (wi_0_200_0 a_this_plan_comers cy g_this_plan_comers), (wi_0_300_0 a_this_left cy n14), (wi_0_12_0 a_this_leaves cy n15), (wi_0_6_0 a_this_plan_pace cy g_this_plan_pace), (wi_0_12_0 a_this_plan_comesAt cy g_this_plan_comesAt), (wi_0_6_0 a_this_plan_calm cy g_this_plan_calm)])) := by
  refine k_ofW2 (by decide +kernel) (Nat.le_of_ble_eq_true rfl) ?_
  intro p e s m below meth c A ls H locs args Q hQ C0 hZ hr hlk hin hP hD hA hS hl
  have C0 : k_cx p s m args c cX7_lay 5 RX7 dC dI cy sq := C0
  have hx := C0.1
  have hb := C0.2.1
  have hl : lv_has ls 5 [(0, .ref a_this), (1, .ref a_arg0), (2, .int p1), (3, .int p2), (4, .int p3)] := hl
  obtain ⟨O, hO⟩ : ∃ o, o = F_X7_lay (lf_A g_this_machine_facts) (lf_A g_this_machine_stack) (Int32.toInt x_this_plan_cycle) (Int32.toInt x_this_plan_least) (Int32.toInt x_this_plan_kinds) (lf_A g_this_plan_calm) (lf_A g_this_plan_pace) (Int32.toInt x_this_plan_walkers) (lf_A g_this_plan_kindOf) (lf_A g_this_plan_comesAt) (lf_A g_this_plan_comers) (lf_A g_this_plan_code) (lf_A g_this_plan_spans) (Int32.toInt x_this_day) (lf_A g_this_trusts) (Int32.toInt x_this_rule) (Int32.toInt x_this_green) (Int32.toInt x_this_absent) (Int32.toInt x_this_asksReds) (lf_A g_this_cars) (lf_A g_this_gaps) (lf_A g_this_known) (lf_A g_this_left) (lf_A g_this_leaves) (Int32.toInt x_this_pressed) (Int32.toInt x_this_crossed) (Int32.toInt x_this_went) (Int32.toInt x_this_harmed) (Int32.toInt x_arg0_day) (lf_A g_arg0_trusts) (Int32.toInt p1) (Int32.toInt p2) (Int32.toInt p3) := ⟨_, rfl⟩
  have hq := hO
  unfold F_X7_lay at hq
  have jn42 : ∀ (J42_c0_2 : Int32) (J42_c0_4 : Int32) (J42_a4 : Nat → Int32) (J42_a7 : Nat → Int32) (J42_a8 : Nat → Int32) (J42_a9 : Nat → Int32) (J42_a10 : Nat → Int32) (J42_a12 : Nat → Int32) (H : Heap) (locs : List Loc) (ls : Array Slot), ib x_this_plan_cycle 1 120 → (O = F_X7_lay_42 (Int32.toInt x_this_plan_cycle) (Int32.toInt x_this_plan_least) (lf_A g_this_plan_calm) (lf_A g_this_plan_pace) (Int32.toInt x_this_plan_walkers) (lf_A g_this_plan_kindOf) (lf_A g_this_plan_comesAt) (lf_A g_this_plan_comers) (lf_A g_this_plan_code) (lf_A g_this_plan_spans) (Int32.toInt x_this_asksReds) (lf_A g_this_left) (lf_A g_this_leaves) (Int32.toInt p1) (Int32.toInt p2) (Int32.toInt p3) (Int32.toInt J42_c0_2) (Int32.toInt J42_c0_4) (lf_A J42_a4) (lf_A J42_a7) (lf_A J42_a8) (lf_A J42_a9) (lf_A J42_a10) (lf_A J42_a12)) → va_P (dC, dI) vwCl [(wo_7_rririiiirrrrriiii a_this a_this_machine a_this_plan J42_c0_2 a_this_trusts J42_c0_4 x_this_green x_this_absent x_this_asksReds a_this_cars a_this_gaps a_this_known a_this_left a_this_leaves x_this_pressed x_this_crossed x_this_went x_this_harmed), (wo_4_iiiiiiirrrirrrrrir a_this_plan x_this_plan_cycle x_this_plan_green x_this_plan_rule x_this_plan_least x_this_plan_away x_this_plan_statements x_this_plan_kinds a_this_plan_calm a_this_plan_pace a_this_plan_trusts x_this_plan_walkers a_this_plan_kindOf a_this_plan_comesAt a_this_plan_comers a_this_plan_names a_this_plan_code x_this_plan_size a_this_plan_spans), (wo_6_iiir a_arg0 x_arg0_day x_arg0_rule x_arg0_green a_arg0_trusts), (wo_3_rr a_this_machine a_this_machine_facts a_this_machine_stack), (wi_0_13_0 a_this_machine_facts cy J42_a4), (wi_0_6_0 a_this_plan_spans cy g_this_plan_spans), (wi_0_1600_0 a_this_plan_code cy g_this_plan_code), (wi_0_64_0 a_this_machine_stack cy J42_a7), (wi_0_320_0 a_this_cars cy J42_a8), (wi_0_320_0 a_this_gaps cy J42_a9), (wi_0_6_0 a_this_trusts cy J42_a10), (wi_0_6_0 a_arg0_trusts cy g_arg0_trusts), (wi_0_3600_0 a_this_known cy J42_a12), (wi_0_12_0 a_this_plan_kindOf cy g_this_plan_kindOf), (wi_0_200_0 a_this_plan_comers cy g_this_plan_comers), (wi_0_300_0 a_this_left cy g_this_left), (wi_0_12_0 a_this_leaves cy g_this_leaves), (wi_0_6_0 a_this_plan_pace cy g_this_plan_pace), (wi_0_12_0 a_this_plan_comesAt cy g_this_plan_comesAt), (wi_0_6_0 a_this_plan_calm cy g_this_plan_calm)] H → va_D A [(wo_7_rririiiirrrrriiii a_this a_this_machine a_this_plan J42_c0_2 a_this_trusts J42_c0_4 x_this_green x_this_absent x_this_asksReds a_this_cars a_this_gaps a_this_known a_this_left a_this_leaves x_this_pressed x_this_crossed x_this_went x_this_harmed), (wo_4_iiiiiiirrrirrrrrir a_this_plan x_this_plan_cycle x_this_plan_green x_this_plan_rule x_this_plan_least x_this_plan_away x_this_plan_statements x_this_plan_kinds a_this_plan_calm a_this_plan_pace a_this_plan_trusts x_this_plan_walkers a_this_plan_kindOf a_this_plan_comesAt a_this_plan_comers a_this_plan_names a_this_plan_code x_this_plan_size a_this_plan_spans), (wo_6_iiir a_arg0 x_arg0_day x_arg0_rule x_arg0_green a_arg0_trusts), (wo_3_rr a_this_machine a_this_machine_facts a_this_machine_stack), (wi_0_13_0 a_this_machine_facts cy J42_a4), (wi_0_6_0 a_this_plan_spans cy g_this_plan_spans), (wi_0_1600_0 a_this_plan_code cy g_this_plan_code), (wi_0_64_0 a_this_machine_stack cy J42_a7), (wi_0_320_0 a_this_cars cy J42_a8), (wi_0_320_0 a_this_gaps cy J42_a9), (wi_0_6_0 a_this_trusts cy J42_a10), (wi_0_6_0 a_arg0_trusts cy g_arg0_trusts), (wi_0_3600_0 a_this_known cy J42_a12), (wi_0_12_0 a_this_plan_kindOf cy g_this_plan_kindOf), (wi_0_200_0 a_this_plan_comers cy g_this_plan_comers), (wi_0_300_0 a_this_left cy g_this_left), (wi_0_12_0 a_this_leaves cy g_this_leaves), (wi_0_6_0 a_this_plan_pace cy g_this_plan_pace), (wi_0_12_0 a_this_plan_comesAt cy g_this_plan_comesAt), (wi_0_6_0 a_this_plan_calm cy g_this_plan_calm)] → va_S A s.heap H locs → lv_has ls 5 [(0, .ref a_this), (1, .ref a_arg0), (2, .int p1), (3, .int p2), (4, .int p3)] → W p l e { frames := 5, cells := 0, slots := 0, locals := 125 } s m args below meth c H locs 0 0 Q (F0 m 42 ls []) := by
    as_aux_lemma =>
      intro J42_c0_2 J42_c0_4 J42_a4 J42_a7 J42_a8 J42_a9 J42_a10 J42_a12 H locs ls hK42_x_this_plan_cycle hq hP hD hS hl
      unfold F_X7_lay_42 at hq
      refine lv_aload_n hx hb dX7_lay_42 rfl (lv_at hl 0 rfl) ?_
      refine lv_iload_n hx hb dX7_lay_43 rfl (lv_at hl 2 rfl) ?_
      refine k_put C0 fp_X7_19 hP hD hS 0 rfl rfl rfl (Nat.le_of_ble_eq_true rfl) dX7_lay_44 (fun H locs hP hD hS => ?_)
      replace hP : va_P (dC, dI) vwCl [(wo_7_rririiiirrrrriiii a_this a_this_machine a_this_plan J42_c0_2 a_this_trusts p1 x_this_green x_this_absent x_this_asksReds a_this_cars a_this_gaps a_this_known a_this_left a_this_leaves x_this_pressed x_this_crossed x_this_went x_this_harmed), (wo_4_iiiiiiirrrirrrrrir a_this_plan x_this_plan_cycle x_this_plan_green x_this_plan_rule x_this_plan_least x_this_plan_away x_this_plan_statements x_this_plan_kinds a_this_plan_calm a_this_plan_pace a_this_plan_trusts x_this_plan_walkers a_this_plan_kindOf a_this_plan_comesAt a_this_plan_comers a_this_plan_names a_this_plan_code x_this_plan_size a_this_plan_spans), (wo_6_iiir a_arg0 x_arg0_day x_arg0_rule x_arg0_green a_arg0_trusts), (wo_3_rr a_this_machine a_this_machine_facts a_this_machine_stack), (wi_0_13_0 a_this_machine_facts cy J42_a4), (wi_0_6_0 a_this_plan_spans cy g_this_plan_spans), (wi_0_1600_0 a_this_plan_code cy g_this_plan_code), (wi_0_64_0 a_this_machine_stack cy J42_a7), (wi_0_320_0 a_this_cars cy J42_a8), (wi_0_320_0 a_this_gaps cy J42_a9), (wi_0_6_0 a_this_trusts cy J42_a10), (wi_0_6_0 a_arg0_trusts cy g_arg0_trusts), (wi_0_3600_0 a_this_known cy J42_a12), (wi_0_12_0 a_this_plan_kindOf cy g_this_plan_kindOf), (wi_0_200_0 a_this_plan_comers cy g_this_plan_comers), (wi_0_300_0 a_this_left cy g_this_left), (wi_0_12_0 a_this_leaves cy g_this_leaves), (wi_0_6_0 a_this_plan_pace cy g_this_plan_pace), (wi_0_12_0 a_this_plan_comesAt cy g_this_plan_comesAt), (wi_0_6_0 a_this_plan_calm cy g_this_plan_calm)] H := hP
      replace hD := k_D hP hD
      refine lv_aload_n hx hb dX7_lay_47 rfl (lv_at hl 0 rfl) ?_
      refine lv_iload_n hx hb dX7_lay_48 rfl (lv_at hl 3 rfl) ?_
      refine k_put C0 fp_X7_22 hP hD hS 0 rfl rfl rfl (Nat.le_of_ble_eq_true rfl) dX7_lay_49 (fun H locs hP hD hS => ?_)
      replace hP : va_P (dC, dI) vwCl [(wo_7_rririiiirrrrriiii a_this a_this_machine a_this_plan J42_c0_2 a_this_trusts p1 p2 x_this_absent x_this_asksReds a_this_cars a_this_gaps a_this_known a_this_left a_this_leaves x_this_pressed x_this_crossed x_this_went x_this_harmed), (wo_4_iiiiiiirrrirrrrrir a_this_plan x_this_plan_cycle x_this_plan_green x_this_plan_rule x_this_plan_least x_this_plan_away x_this_plan_statements x_this_plan_kinds a_this_plan_calm a_this_plan_pace a_this_plan_trusts x_this_plan_walkers a_this_plan_kindOf a_this_plan_comesAt a_this_plan_comers a_this_plan_names a_this_plan_code x_this_plan_size a_this_plan_spans), (wo_6_iiir a_arg0 x_arg0_day x_arg0_rule x_arg0_green a_arg0_trusts), (wo_3_rr a_this_machine a_this_machine_facts a_this_machine_stack), (wi_0_13_0 a_this_machine_facts cy J42_a4), (wi_0_6_0 a_this_plan_spans cy g_this_plan_spans), (wi_0_1600_0 a_this_plan_code cy g_this_plan_code), (wi_0_64_0 a_this_machine_stack cy J42_a7), (wi_0_320_0 a_this_cars cy J42_a8), (wi_0_320_0 a_this_gaps cy J42_a9), (wi_0_6_0 a_this_trusts cy J42_a10), (wi_0_6_0 a_arg0_trusts cy g_arg0_trusts), (wi_0_3600_0 a_this_known cy J42_a12), (wi_0_12_0 a_this_plan_kindOf cy g_this_plan_kindOf), (wi_0_200_0 a_this_plan_comers cy g_this_plan_comers), (wi_0_300_0 a_this_left cy g_this_left), (wi_0_12_0 a_this_leaves cy g_this_leaves), (wi_0_6_0 a_this_plan_pace cy g_this_plan_pace), (wi_0_12_0 a_this_plan_comesAt cy g_this_plan_comesAt), (wi_0_6_0 a_this_plan_calm cy g_this_plan_calm)] H := hP
      replace hD := k_D hP hD
      refine lv_aload_n hx hb dX7_lay_52 rfl (lv_at hl 0 rfl) ?_
      refine lv_iload hx hb dX7_lay_53 (lv_at hl 4 rfl) ?_
      refine k_put C0 fp_X7_25 hP hD hS 0 rfl rfl rfl (Nat.le_of_ble_eq_true rfl) dX7_lay_55 (fun H locs hP hD hS => ?_)
      replace hP : va_P (dC, dI) vwCl [(wo_7_rririiiirrrrriiii a_this a_this_machine a_this_plan J42_c0_2 a_this_trusts p1 p2 p3 x_this_asksReds a_this_cars a_this_gaps a_this_known a_this_left a_this_leaves x_this_pressed x_this_crossed x_this_went x_this_harmed), (wo_4_iiiiiiirrrirrrrrir a_this_plan x_this_plan_cycle x_this_plan_green x_this_plan_rule x_this_plan_least x_this_plan_away x_this_plan_statements x_this_plan_kinds a_this_plan_calm a_this_plan_pace a_this_plan_trusts x_this_plan_walkers a_this_plan_kindOf a_this_plan_comesAt a_this_plan_comers a_this_plan_names a_this_plan_code x_this_plan_size a_this_plan_spans), (wo_6_iiir a_arg0 x_arg0_day x_arg0_rule x_arg0_green a_arg0_trusts), (wo_3_rr a_this_machine a_this_machine_facts a_this_machine_stack), (wi_0_13_0 a_this_machine_facts cy J42_a4), (wi_0_6_0 a_this_plan_spans cy g_this_plan_spans), (wi_0_1600_0 a_this_plan_code cy g_this_plan_code), (wi_0_64_0 a_this_machine_stack cy J42_a7), (wi_0_320_0 a_this_cars cy J42_a8), (wi_0_320_0 a_this_gaps cy J42_a9), (wi_0_6_0 a_this_trusts cy J42_a10), (wi_0_6_0 a_arg0_trusts cy g_arg0_trusts), (wi_0_3600_0 a_this_known cy J42_a12), (wi_0_12_0 a_this_plan_kindOf cy g_this_plan_kindOf), (wi_0_200_0 a_this_plan_comers cy g_this_plan_comers), (wi_0_300_0 a_this_left cy g_this_left), (wi_0_12_0 a_this_leaves cy g_this_leaves), (wi_0_6_0 a_this_plan_pace cy g_this_plan_pace), (wi_0_12_0 a_this_plan_comesAt cy g_this_plan_comesAt), (wi_0_6_0 a_this_plan_calm cy g_this_plan_calm)] H := hP
      replace hD := k_D hP hD
      refine lv_aload_n hx hb dX7_lay_58 rfl (lv_at hl 0 rfl) ?_
      refine k_jvm hP hD hS hA [0, 1, 13, 10, 14, 15] [false, false, true, true, true, true, true, true, true, true, false, true, true, false, false, false, true, true, true, true] rfl rfl (by decide +kernel) 0 0 (Nat.le_of_ble_eq_true rfl) (Nat.le_of_ble_eq_true rfl) (fun hPc hDc => k_runV (As := []) (rest := []) C0 hZ hS hA (s_X7_shine l dC dI cy sq a_this a_this_machine a_this_plan x_this_plan_cycle x_this_plan_green x_this_plan_rule x_this_plan_least x_this_plan_away x_this_plan_statements x_this_plan_kinds a_this_plan_calm a_this_plan_pace a_this_plan_trusts x_this_plan_walkers a_this_plan_kindOf g_this_plan_kindOf a_this_plan_comesAt a_this_plan_comers g_this_plan_comers a_this_plan_names a_this_plan_code x_this_plan_size a_this_plan_spans J42_c0_2 a_this_trusts J42_a10 p1 p2 p3 x_this_asksReds a_this_cars a_this_gaps a_this_known a_this_left g_this_left a_this_leaves x_this_pressed x_this_crossed x_this_went x_this_harmed (ib_w 0 99 hx_this_plan_least rfl) (ib_w 0 12 hx_this_plan_walkers rfl) hg_this_plan_kindOf (ib_w 1 120 hK42_x_this_plan_cycle rfl)) mV_X7_80 hPc hDc rfl rfl rfl hl rfl rfl (Nat.le_of_ble_eq_true rfl) ⟨(Nat.le_of_ble_eq_true rfl), (Nat.le_of_ble_eq_true rfl)⟩ ⟨(Nat.le_of_ble_eq_true rfl), (Nat.le_of_ble_eq_true rfl)⟩ dX7_lay_59) (fun u2 H locs hw hP hD hS => ?_)
      obtain ⟨v3, f4⟩ := u2
      try dsimp only at hP hD hw
      replace hP : va_P (dC, dI) vwCl [(wo_6_iiir a_arg0 x_arg0_day x_arg0_rule x_arg0_green a_arg0_trusts), (wo_3_rr a_this_machine a_this_machine_facts a_this_machine_stack), (wi_0_13_0 a_this_machine_facts cy J42_a4), (wi_0_6_0 a_this_plan_spans cy g_this_plan_spans), (wi_0_1600_0 a_this_plan_code cy g_this_plan_code), (wi_0_64_0 a_this_machine_stack cy J42_a7), (wi_0_320_0 a_this_cars cy J42_a8), (wi_0_320_0 a_this_gaps cy J42_a9), (wi_0_6_0 a_arg0_trusts cy g_arg0_trusts), (wi_0_3600_0 a_this_known cy J42_a12), (wi_0_12_0 a_this_leaves cy g_this_leaves), (wi_0_6_0 a_this_plan_pace cy g_this_plan_pace), (wi_0_12_0 a_this_plan_comesAt cy g_this_plan_comesAt), (wi_0_6_0 a_this_plan_calm cy g_this_plan_calm), (wo_7_rririiiirrrrriiii a_this a_this_machine a_this_plan J42_c0_2 a_this_trusts p1 p2 p3 x_this_asksReds a_this_cars a_this_gaps a_this_known a_this_left a_this_leaves v3 x_this_crossed x_this_went x_this_harmed), (wo_4_iiiiiiirrrirrrrrir a_this_plan x_this_plan_cycle x_this_plan_green x_this_plan_rule x_this_plan_least x_this_plan_away x_this_plan_statements x_this_plan_kinds a_this_plan_calm a_this_plan_pace a_this_plan_trusts x_this_plan_walkers a_this_plan_kindOf a_this_plan_comesAt a_this_plan_comers a_this_plan_names a_this_plan_code x_this_plan_size a_this_plan_spans), (wi_0_12_0 a_this_plan_kindOf cy g_this_plan_kindOf), (wi_0_6_0 a_this_trusts cy J42_a10), (wi_0_200_0 a_this_plan_comers cy g_this_plan_comers), (wi_0_300_0 a_this_left cy f4)] H := hP
      replace hD := k_D hP hD
      have h5 := hw
      replace hq := lf_p1 hq h5
      refine lv_aload_n hx hb dX7_lay_62 rfl (lv_at hl 0 rfl) ?_
      refine k_jvm hP hD hS hA [14, 10, 15, 18, 16, 11, 19, 9, 1, 7, 2, 12, 17, 13, 3, 4, 5] [true, false, false, false, false, false, true, false, true] rfl rfl (by decide +kernel) 0 0 (Nat.le_of_ble_eq_true rfl) (Nat.le_of_ble_eq_true rfl) (fun hPc hDc => k_runV (As := []) (rest := []) C0 hZ hS hA (s_X7_walk l dC dI cy sq a_this a_this_machine a_this_machine_facts J42_a4 a_this_machine_stack J42_a7 a_this_plan x_this_plan_cycle x_this_plan_green x_this_plan_rule x_this_plan_least x_this_plan_away x_this_plan_statements x_this_plan_kinds a_this_plan_calm g_this_plan_calm a_this_plan_pace g_this_plan_pace a_this_plan_trusts x_this_plan_walkers a_this_plan_kindOf g_this_plan_kindOf a_this_plan_comesAt g_this_plan_comesAt a_this_plan_comers g_this_plan_comers a_this_plan_names a_this_plan_code g_this_plan_code x_this_plan_size a_this_plan_spans g_this_plan_spans J42_c0_2 a_this_trusts J42_a10 p1 p2 p3 x_this_asksReds a_this_cars a_this_gaps J42_a9 a_this_known J42_a12 a_this_left f4 a_this_leaves g_this_leaves v3 x_this_crossed x_this_went x_this_harmed (ib_w 0 12 hx_this_plan_walkers rfl) hg_this_plan_kindOf hg_this_plan_comesAt hg_this_plan_spans (ib_w 0 1 hx_this_asksReds rfl)) mV_X7_83 hPc hDc rfl rfl rfl hl rfl rfl (Nat.le_of_ble_eq_true rfl) ⟨(Nat.le_of_ble_eq_true rfl), (Nat.le_of_ble_eq_true rfl)⟩ ⟨(Nat.le_of_ble_eq_true rfl), (Nat.le_of_ble_eq_true rfl)⟩ dX7_lay_63) (fun u7 H locs hw hP hD hS => ?_)
      obtain ⟨v8, v9, v10, f11, f12, f13, f14⟩ := u7
      try dsimp only at hP hD hw
      replace hP : va_P (dC, dI) vwCl [(wo_6_iiir a_arg0 x_arg0_day x_arg0_rule x_arg0_green a_arg0_trusts), (wi_0_320_0 a_this_cars cy J42_a8), (wi_0_6_0 a_arg0_trusts cy g_arg0_trusts), (wo_7_rririiiirrrrriiii a_this a_this_machine a_this_plan J42_c0_2 a_this_trusts p1 p2 p3 x_this_asksReds a_this_cars a_this_gaps a_this_known a_this_left a_this_leaves v3 v8 v9 v10), (wi_0_12_0 a_this_leaves cy f11), (wo_4_iiiiiiirrrirrrrrir a_this_plan x_this_plan_cycle x_this_plan_green x_this_plan_rule x_this_plan_least x_this_plan_away x_this_plan_statements x_this_plan_kinds a_this_plan_calm a_this_plan_pace a_this_plan_trusts x_this_plan_walkers a_this_plan_kindOf a_this_plan_comesAt a_this_plan_comers a_this_plan_names a_this_plan_code x_this_plan_size a_this_plan_spans), (wi_0_200_0 a_this_plan_comers cy g_this_plan_comers), (wi_0_12_0 a_this_plan_kindOf cy g_this_plan_kindOf), (wi_0_6_0 a_this_plan_pace cy g_this_plan_pace), (wi_0_300_0 a_this_left cy f4), (wi_0_3600_0 a_this_known cy f12), (wo_3_rr a_this_machine a_this_machine_facts a_this_machine_stack), (wi_0_320_0 a_this_gaps cy J42_a9), (wi_0_13_0 a_this_machine_facts cy f13), (wi_0_12_0 a_this_plan_comesAt cy g_this_plan_comesAt), (wi_0_6_0 a_this_trusts cy J42_a10), (wi_0_6_0 a_this_plan_calm cy g_this_plan_calm), (wi_0_6_0 a_this_plan_spans cy g_this_plan_spans), (wi_0_1600_0 a_this_plan_code cy g_this_plan_code), (wi_0_64_0 a_this_machine_stack cy f14)] H := hP
      replace hD := k_D hP hD
      have h15 := hw
      replace hq := lf_p1 hq h15
      replace hq := lf_p1 hq rfl
      replace hq := lf_p1 hq rfl
      replace hq := lf_p1 hq rfl
      replace hq := lf_p1 hq rfl
      replace hq := lf_p1 hq rfl
      subst hQ; exact k_vret hx hb hr hlk ((J42_c0_2, p1, p2, p3, v3, v8, v9, v10, f13, f14, J42_a8, J42_a9, J42_a10, f12, f4, f11)) hS ((hO.symm.trans (by exact hq))) (hP.sub [3, 5, 0, 11, 13, 17, 18, 19, 1, 12, 15, 2, 10, 7, 6, 9, 4, 8, 14, 16] rfl) (hD.sub [3, 5, 0, 11, 13, 17, 18, 19, 1, 12, 15, 2, 10, 7, 6, 9, 4, 8, 14, 16] (by decide +kernel) rfl) (Nat.le_of_ble_eq_true rfl) (Nat.le_of_ble_eq_true rfl) dX7_lay_66
  refine lv_aload_n hx hb dX7_lay_0 rfl (lv_at hl 0 rfl) ?_
  refine k_get C0 fg_X7_63 hP 0 rfl rfl dX7_lay_1 ?_
  refine k_get C0 fg_X7_73 hP 1 rfl rfl dX7_lay_4 ?_
  refine lv_if_gt (tgt := 11) hx hb dX7_lay_7 rfl (fun c16 => ?_) (fun c16 => ?_)
  · as_aux_lemma =>
      replace hq := lf_pos hq (lf_lt (lf_lc 0 (0 : Int) rfl) (lf_rf x_this_plan_cycle) c16)
      have h17 := ib_lt (ib_c 0 0 0 rfl) hx_this_plan_cycle c16
      have h18 : ib x_this_plan_cycle 1 120 := ib_w 1 120 h17.2 rfl
      refine lv_aload_n hx hb dX7_lay_11 rfl (lv_at hl 0 rfl) ?_
      refine lv_aload_n hx hb dX7_lay_12 rfl (lv_at hl 1 rfl) ?_
      refine k_jvm hP hD hS hA [0, 2, 1, 3, 4, 5, 6, 7, 8, 9, 10, 11, 12] [false, false, false, false, false, false, false, false, false, false, false, false, false, true, true, true, true, true, true, true] rfl rfl (by decide +kernel) 0 0 (Nat.le_of_ble_eq_true rfl) (Nat.le_of_ble_eq_true rfl) (fun hPc hDc => k_runV (As := [.ref a_arg0]) (rest := []) C0 hZ hS hA (s_X7_prepare l dC dI cy sq a_this a_this_machine a_this_machine_facts g_this_machine_facts a_this_machine_stack g_this_machine_stack a_this_plan x_this_plan_cycle x_this_plan_green x_this_plan_rule x_this_plan_least x_this_plan_away x_this_plan_statements x_this_plan_kinds a_this_plan_calm a_this_plan_pace a_this_plan_trusts x_this_plan_walkers a_this_plan_kindOf a_this_plan_comesAt a_this_plan_comers a_this_plan_names a_this_plan_code g_this_plan_code x_this_plan_size a_this_plan_spans g_this_plan_spans x_this_day a_this_trusts g_this_trusts x_this_rule x_this_green x_this_absent x_this_asksReds a_this_cars g_this_cars a_this_gaps g_this_gaps a_this_known g_this_known a_this_left a_this_leaves x_this_pressed x_this_crossed x_this_went x_this_harmed a_arg0 x_arg0_day x_arg0_rule x_arg0_green a_arg0_trusts g_arg0_trusts (ib_w 0 6 hx_this_plan_kinds rfl) hg_this_plan_spans (ib_w 1 120 h18 rfl)) mV_X7_76 hPc hDc rfl rfl rfl hl rfl rfl (Nat.le_of_ble_eq_true rfl) ⟨(Nat.le_of_ble_eq_true rfl), (Nat.le_of_ble_eq_true rfl)⟩ ⟨(Nat.le_of_ble_eq_true rfl), (Nat.le_of_ble_eq_true rfl)⟩ dX7_lay_13) (fun u20 H locs hw hP hD hS => ?_)
      obtain ⟨v21, v22, f23, f24, f25, f26, f27, f28⟩ := u20
      try dsimp only at hP hD hw
      replace hP : va_P (dC, dI) vwCl [(wi_0_12_0 a_this_plan_kindOf cy g_this_plan_kindOf), (wi_0_200_0 a_this_plan_comers cy g_this_plan_comers), (wi_0_300_0 a_this_left cy g_this_left), (wi_0_12_0 a_this_leaves cy g_this_leaves), (wi_0_6_0 a_this_plan_pace cy g_this_plan_pace), (wi_0_12_0 a_this_plan_comesAt cy g_this_plan_comesAt), (wi_0_6_0 a_this_plan_calm cy g_this_plan_calm), (wo_7_rririiiirrrrriiii a_this a_this_machine a_this_plan v21 a_this_trusts v22 x_this_green x_this_absent x_this_asksReds a_this_cars a_this_gaps a_this_known a_this_left a_this_leaves x_this_pressed x_this_crossed x_this_went x_this_harmed), (wo_6_iiir a_arg0 x_arg0_day x_arg0_rule x_arg0_green a_arg0_trusts), (wo_4_iiiiiiirrrirrrrrir a_this_plan x_this_plan_cycle x_this_plan_green x_this_plan_rule x_this_plan_least x_this_plan_away x_this_plan_statements x_this_plan_kinds a_this_plan_calm a_this_plan_pace a_this_plan_trusts x_this_plan_walkers a_this_plan_kindOf a_this_plan_comesAt a_this_plan_comers a_this_plan_names a_this_plan_code x_this_plan_size a_this_plan_spans), (wo_3_rr a_this_machine a_this_machine_facts a_this_machine_stack), (wi_0_13_0 a_this_machine_facts cy f23), (wi_0_6_0 a_this_plan_spans cy g_this_plan_spans), (wi_0_1600_0 a_this_plan_code cy g_this_plan_code), (wi_0_64_0 a_this_machine_stack cy f24), (wi_0_320_0 a_this_cars cy f25), (wi_0_320_0 a_this_gaps cy f26), (wi_0_6_0 a_this_trusts cy f27), (wi_0_6_0 a_arg0_trusts cy g_arg0_trusts), (wi_0_3600_0 a_this_known cy f28)] H := hP
      replace hD := k_D hP hD
      have h29 := hw
      replace hq := lf_p1 hq h29
      replace hq := lf_p1 hq rfl
      replace hq := lf_p1 hq rfl
      replace hq := lf_p1 hq rfl
      replace hq := lf_p1 hq rfl
      replace hq := lf_p1 hq rfl
      replace hq := lf_p1 hq rfl
      refine lv_aload_n hx hb dX7_lay_16 rfl (lv_at hl 0 rfl) ?_
      refine k_get C0 fg_X7_19 hP 7 rfl rfl dX7_lay_17 ?_
      refine lv_iload_n hx hb dX7_lay_20 rfl (lv_at hl 2 rfl) ?_
      refine lv_icmp_ne (tgt := 42) hx hb dX7_lay_21 rfl (fun c30 => ?_) (fun c30 => ?_)
      · replace hq := lf_neg hq (lf_ne (lf_rf v22) (lf_rf p1) c30)
        exact jn42 v21 v22 f23 f24 f25 f26 f27 f28 H locs ls (ib_w 1 120 h18 rfl) (by exact hq) (hP.sub [7, 9, 8, 10, 11, 12, 13, 14, 15, 16, 17, 18, 19, 0, 1, 2, 3, 4, 5, 6] rfl) (hD.sub [7, 9, 8, 10, 11, 12, 13, 14, 15, 16, 17, 18, 19, 0, 1, 2, 3, 4, 5, 6] (by decide +kernel) rfl) hS (lv_sub hl [0, 1, 2, 3, 4] rfl)
      · replace hq := lf_pos hq (lf_eq (lf_rf v22) (lf_rf p1) c30)
        have h31 := ib_eq (ib_any v22) (ib_any p1) c30
        refine lv_aload_n hx hb dX7_lay_24 rfl (lv_at hl 0 rfl) ?_
        refine k_get C0 fg_X7_22 hP 7 rfl rfl dX7_lay_25 ?_
        refine lv_iload_n hx hb dX7_lay_28 rfl (lv_at hl 3 rfl) ?_
        refine lv_icmp_ne (tgt := 42) hx hb dX7_lay_29 rfl (fun c32 => ?_) (fun c32 => ?_)
        · replace hq := lf_neg hq (lf_ne (lf_rf x_this_green) (lf_rf p2) c32)
          exact jn42 v21 v22 f23 f24 f25 f26 f27 f28 H locs ls (ib_w 1 120 h18 rfl) (by exact hq) (hP.sub [7, 9, 8, 10, 11, 12, 13, 14, 15, 16, 17, 18, 19, 0, 1, 2, 3, 4, 5, 6] rfl) (hD.sub [7, 9, 8, 10, 11, 12, 13, 14, 15, 16, 17, 18, 19, 0, 1, 2, 3, 4, 5, 6] (by decide +kernel) rfl) hS (lv_sub hl [0, 1, 2, 3, 4] rfl)
        · replace hq := lf_pos hq (lf_eq (lf_rf x_this_green) (lf_rf p2) c32)
          have h33 := ib_eq (ib_any x_this_green) (ib_any p2) c32
          refine lv_aload_n hx hb dX7_lay_32 rfl (lv_at hl 0 rfl) ?_
          refine k_get C0 fg_X7_25 hP 7 rfl rfl dX7_lay_33 ?_
          refine lv_iload hx hb dX7_lay_36 (lv_at hl 4 rfl) ?_
          refine lv_icmp_ne (tgt := 42) hx hb dX7_lay_38 rfl (fun c34 => ?_) (fun c34 => ?_)
          · replace hq := lf_neg hq (lf_ne (lf_rf x_this_absent) (lf_rf p3) c34)
            exact jn42 v21 v22 f23 f24 f25 f26 f27 f28 H locs ls (ib_w 1 120 h18 rfl) (by exact hq) (hP.sub [7, 9, 8, 10, 11, 12, 13, 14, 15, 16, 17, 18, 19, 0, 1, 2, 3, 4, 5, 6] rfl) (hD.sub [7, 9, 8, 10, 11, 12, 13, 14, 15, 16, 17, 18, 19, 0, 1, 2, 3, 4, 5, 6] (by decide +kernel) rfl) hS (lv_sub hl [0, 1, 2, 3, 4] rfl)
          · replace hq := lf_pos hq (lf_eq (lf_rf x_this_absent) (lf_rf p3) c34)
            have h35 := ib_eq (ib_any x_this_absent) (ib_any p3) c34
            subst hQ; exact k_vret hx hb hr hlk ((v21, v22, x_this_green, x_this_absent, x_this_pressed, x_this_crossed, x_this_went, x_this_harmed, f23, f24, f25, f26, f27, f28, g_this_left, g_this_leaves)) hS ((hO.symm.trans (by exact hq))) (hP.sub [7, 9, 8, 10, 11, 12, 13, 14, 15, 16, 17, 18, 19, 0, 1, 2, 3, 4, 5, 6] rfl) (hD.sub [7, 9, 8, 10, 11, 12, 13, 14, 15, 16, 17, 18, 19, 0, 1, 2, 3, 4, 5, 6] (by decide +kernel) rfl) (Nat.le_of_ble_eq_true rfl) (Nat.le_of_ble_eq_true rfl) dX7_lay_41
  · replace hq := lf_neg hq (lf_nlt (lf_lc 0 (0 : Int) rfl) (lf_rf x_this_plan_cycle) c16)
    have h36 := ib_nlt (ib_c 0 0 0 rfl) hx_this_plan_cycle c16
    have h37 : ib x_this_plan_cycle 0 0 := ib_w 0 0 h36.2 rfl
    subst hQ; exact k_vret hx hb hr hlk ((x_this_day, x_this_rule, x_this_green, x_this_absent, x_this_pressed, x_this_crossed, x_this_went, x_this_harmed, g_this_machine_facts, g_this_machine_stack, g_this_cars, g_this_gaps, g_this_trusts, g_this_known, g_this_left, g_this_leaves)) hS ((hO.symm.trans (by exact hq))) hP hD (Nat.le_of_ble_eq_true rfl) (Nat.le_of_ble_eq_true rfl) dX7_lay_10
set_option maxHeartbeats 4000000 in
set_option maxRecDepth 100000 in
theorem s_X7_waitedBy (l : Launch) (dC : Nat → ClassId) (dI : Nat → Nat → Nat) (cy : Nat → ClassId) (sq : Nat → Nat) (a_this : Nat) (a_this_machine : Nat) (a_this_plan : Nat) (x_this_plan_cycle : Int32) (x_this_plan_green : Int32) (x_this_plan_rule : Int32) (x_this_plan_least : Int32) (x_this_plan_away : Int32) (x_this_plan_statements : Int32) (x_this_plan_kinds : Int32) (a_this_plan_calm : Nat) (a_this_plan_pace : Nat) (a_this_plan_trusts : Nat) (x_this_plan_walkers : Int32) (a_this_plan_kindOf : Nat) (a_this_plan_comesAt : Nat) (g_this_plan_comesAt : Nat → Int32) (a_this_plan_comers : Nat) (a_this_plan_names : Nat) (a_this_plan_code : Nat) (x_this_plan_size : Int32) (a_this_plan_spans : Nat) (x_this_day : Int32) (a_this_trusts : Nat) (x_this_rule : Int32) (x_this_green : Int32) (x_this_absent : Int32) (x_this_asksReds : Int32) (a_this_cars : Nat) (a_this_gaps : Nat) (a_this_known : Nat) (a_this_left : Nat) (a_this_leaves : Nat) (g_this_leaves : Nat → Int32) (x_this_pressed : Int32) (x_this_crossed : Int32) (x_this_went : Int32) (x_this_harmed : Int32) (p0 : Int32) (hg_this_plan_comesAt : ia g_this_plan_comesAt 12 0 199) (hp0 : ib p0 0 11) : k_Met l yX7_waitedBy cX7_waitedBy 2 (some .int) { frames := 0, cells := 0, slots := 0, locals := 0 } dC dI cy sq [.ref a_this, .int p0] [(wo_7_rririiiirrrrriiii a_this a_this_machine a_this_plan x_this_day a_this_trusts x_this_rule x_this_green x_this_absent x_this_asksReds a_this_cars a_this_gaps a_this_known a_this_left a_this_leaves x_this_pressed x_this_crossed x_this_went x_this_harmed), (wi_0_12_0 a_this_leaves cy g_this_leaves), (wo_4_iiiiiiirrrirrrrrir a_this_plan x_this_plan_cycle x_this_plan_green x_this_plan_rule x_this_plan_least x_this_plan_away x_this_plan_statements x_this_plan_kinds a_this_plan_calm a_this_plan_pace a_this_plan_trusts x_this_plan_walkers a_this_plan_kindOf a_this_plan_comesAt a_this_plan_comers a_this_plan_names a_this_plan_code x_this_plan_size a_this_plan_spans), (wi_0_12_0 a_this_plan_comesAt cy g_this_plan_comesAt)] (k_Qi dC dI (fun (r : Int32) (_ : Unit) => (F_X7_waitedBy (lf_A g_this_plan_comesAt) (lf_A g_this_leaves) (Int32.toInt p0) = ((Int32.toInt r)))) (fun _ : Unit => [(wo_7_rririiiirrrrriiii a_this a_this_machine a_this_plan x_this_day a_this_trusts x_this_rule x_this_green x_this_absent x_this_asksReds a_this_cars a_this_gaps a_this_known a_this_left a_this_leaves x_this_pressed x_this_crossed x_this_went x_this_harmed), (wi_0_12_0 a_this_leaves cy g_this_leaves), (wo_4_iiiiiiirrrirrrrrir a_this_plan x_this_plan_cycle x_this_plan_green x_this_plan_rule x_this_plan_least x_this_plan_away x_this_plan_statements x_this_plan_kinds a_this_plan_calm a_this_plan_pace a_this_plan_trusts x_this_plan_walkers a_this_plan_kindOf a_this_plan_comesAt a_this_plan_comers a_this_plan_names a_this_plan_code x_this_plan_size a_this_plan_spans), (wi_0_12_0 a_this_plan_comesAt cy g_this_plan_comesAt)])) := by
  refine k_ofW2 (by decide +kernel) (Nat.le_of_ble_eq_true rfl) ?_
  intro p e s m below meth c A ls H locs args Q hQ C0 hZ hr hlk hin hP hD hA hS hl
  have C0 : k_cx p s m args c cX7_waitedBy 2 RX7 dC dI cy sq := C0
  have hx := C0.1
  have hb := C0.2.1
  have hl : lv_has ls 2 [(0, .ref a_this), (1, .int p0)] := hl
  obtain ⟨O, hO⟩ : ∃ o, o = F_X7_waitedBy (lf_A g_this_plan_comesAt) (lf_A g_this_leaves) (Int32.toInt p0) := ⟨_, rfl⟩
  have hq := hO
  unfold F_X7_waitedBy at hq
  have jn22 : ∀ (J22_s0 : Int32) (H : Heap) (locs : List Loc) (ls : Array Slot), (O = F_X7_waitedBy_22 (lf_A g_this_plan_comesAt) (Int32.toInt p0) (Int32.toInt J22_s0)) → va_P (dC, dI) vwCl [(wo_7_rririiiirrrrriiii a_this a_this_machine a_this_plan x_this_day a_this_trusts x_this_rule x_this_green x_this_absent x_this_asksReds a_this_cars a_this_gaps a_this_known a_this_left a_this_leaves x_this_pressed x_this_crossed x_this_went x_this_harmed), (wi_0_12_0 a_this_leaves cy g_this_leaves), (wo_4_iiiiiiirrrirrrrrir a_this_plan x_this_plan_cycle x_this_plan_green x_this_plan_rule x_this_plan_least x_this_plan_away x_this_plan_statements x_this_plan_kinds a_this_plan_calm a_this_plan_pace a_this_plan_trusts x_this_plan_walkers a_this_plan_kindOf a_this_plan_comesAt a_this_plan_comers a_this_plan_names a_this_plan_code x_this_plan_size a_this_plan_spans), (wi_0_12_0 a_this_plan_comesAt cy g_this_plan_comesAt)] H → va_D A [(wo_7_rririiiirrrrriiii a_this a_this_machine a_this_plan x_this_day a_this_trusts x_this_rule x_this_green x_this_absent x_this_asksReds a_this_cars a_this_gaps a_this_known a_this_left a_this_leaves x_this_pressed x_this_crossed x_this_went x_this_harmed), (wi_0_12_0 a_this_leaves cy g_this_leaves), (wo_4_iiiiiiirrrirrrrrir a_this_plan x_this_plan_cycle x_this_plan_green x_this_plan_rule x_this_plan_least x_this_plan_away x_this_plan_statements x_this_plan_kinds a_this_plan_calm a_this_plan_pace a_this_plan_trusts x_this_plan_walkers a_this_plan_kindOf a_this_plan_comesAt a_this_plan_comers a_this_plan_names a_this_plan_code x_this_plan_size a_this_plan_spans), (wi_0_12_0 a_this_plan_comesAt cy g_this_plan_comesAt)] → va_S A s.heap H locs → lv_has ls 2 [(0, .ref a_this), (1, .int p0)] → W p l e { frames := 0, cells := 0, slots := 0, locals := 0 } s m args below meth c H locs 0 0 Q (F0 m 22 ls [.int J22_s0]) := by
    intro J22_s0 H locs ls hq hP hD hS hl
    unfold F_X7_waitedBy_22 at hq
    refine lv_aload_n hx hb dX7_waitedBy_22 rfl (lv_at hl 0 rfl) ?_
    refine k_get C0 fg_X7_63 hP 0 rfl rfl dX7_waitedBy_23 ?_
    refine k_get C0 fg_X7_153 hP 2 rfl rfl dX7_waitedBy_26 ?_
    refine lv_iload_n hx hb dX7_waitedBy_29 rfl (lv_at hl 1 rfl) ?_
    refine va_iald hx hb C0.2.2.2.2.2.1 hP 3 0 rfl rfl (ib_in 12 hp0 rfl) dX7_waitedBy_30 ?_
    refine lv_topi (fun z1 ez1 => ?_)
    have h2 : ib z1 0 199 := by rw [ez1]; exact ia_at hg_this_plan_comesAt (ib_in 12 hp0 rfl)
    have Ez1 := lf_ld ez1 (lf_ra g_this_plan_comesAt) (lf_rf p0)
    refine lv_isub hx hb dX7_waitedBy_31 ?_
    refine lv_topi (fun z3 ez3 => ?_)
    have Ez3 := lf_op lf_isub ez3 (lf_rf J22_s0) Ez1
    subst hQ; exact k_iret hx hb hr hlk rfl () hS ((hO.symm.trans (by rw [lf_u Ez3]; exact hq))) hP hD (Nat.le_of_ble_eq_true rfl) (Nat.le_of_ble_eq_true rfl) dX7_waitedBy_32
  refine lv_aload_n hx hb dX7_waitedBy_0 rfl (lv_at hl 0 rfl) ?_
  refine k_get C0 fg_X7_44 hP 0 rfl rfl dX7_waitedBy_1 ?_
  refine lv_iload_n hx hb dX7_waitedBy_4 rfl (lv_at hl 1 rfl) ?_
  refine va_iald hx hb C0.2.2.2.2.2.1 hP 1 0 rfl rfl (ib_in 12 hp0 rfl) dX7_waitedBy_5 ?_
  refine lv_topi (fun z4 ez4 => ?_)
  have Ez4 := lf_ld ez4 (lf_ra g_this_leaves) (lf_rf p0)
  refine lv_iconst (v := (-1)) hx hb dX7_waitedBy_6 rfl ?_
  refine lv_icmp_ne (tgt := 16) hx hb dX7_waitedBy_7 rfl (fun c5 => ?_) (fun c5 => ?_)
  · replace hq := lf_neg hq (lf_ne Ez4 (lf_lc (-1) (-1 : Int) rfl) c5)
    refine lv_aload_n hx hb dX7_waitedBy_16 rfl (lv_at hl 0 rfl) ?_
    refine k_get C0 fg_X7_44 hP 0 rfl rfl dX7_waitedBy_17 ?_
    refine lv_iload_n hx hb dX7_waitedBy_20 rfl (lv_at hl 1 rfl) ?_
    refine va_iald hx hb C0.2.2.2.2.2.1 hP 1 0 rfl rfl (ib_in 12 hp0 rfl) dX7_waitedBy_21 ?_
    refine lv_topi (fun z6 ez6 => ?_)
    have Ez6 := lf_ld ez6 (lf_ra g_this_leaves) (lf_rf p0)
    exact jn22 z6 H locs ls (by rw [lf_u Ez6]; exact hq) hP hD hS (lv_sub hl [0, 1] rfl)
  · replace hq := lf_pos hq (lf_eq Ez4 (lf_lc (-1) (-1 : Int) rfl) c5)
    have h7 := ib_eq (ib_any z4) (ib_c (-1) (-1) (-1) rfl) c5
    have h8 : ib z4 (-1) (-1) := ib_w (-1) (-1) h7.1 rfl
    refine lv_sipush (v := 300) hx hb dX7_waitedBy_10 rfl ?_
    refine lv_goto (tgt := 22) hx hb dX7_waitedBy_13 rfl ?_
    exact jn22 300 H locs ls (by try simp only [show (300 : Int32).toInt = (300 : Int) from rfl]; exact hq) hP hD hS (lv_sub hl [0, 1] rfl)
set_option maxHeartbeats 4000000 in
set_option maxRecDepth 100000 in
theorem s_X7_waitedByAll (l : Launch) (dC : Nat → ClassId) (dI : Nat → Nat → Nat) (cy : Nat → ClassId) (sq : Nat → Nat) (a_this : Nat) (a_this_machine : Nat) (a_this_plan : Nat) (x_this_plan_cycle : Int32) (x_this_plan_green : Int32) (x_this_plan_rule : Int32) (x_this_plan_least : Int32) (x_this_plan_away : Int32) (x_this_plan_statements : Int32) (x_this_plan_kinds : Int32) (a_this_plan_calm : Nat) (a_this_plan_pace : Nat) (a_this_plan_trusts : Nat) (x_this_plan_walkers : Int32) (a_this_plan_kindOf : Nat) (a_this_plan_comesAt : Nat) (g_this_plan_comesAt : Nat → Int32) (a_this_plan_comers : Nat) (a_this_plan_names : Nat) (a_this_plan_code : Nat) (x_this_plan_size : Int32) (a_this_plan_spans : Nat) (x_this_day : Int32) (a_this_trusts : Nat) (x_this_rule : Int32) (x_this_green : Int32) (x_this_absent : Int32) (x_this_asksReds : Int32) (a_this_cars : Nat) (a_this_gaps : Nat) (a_this_known : Nat) (a_this_left : Nat) (a_this_leaves : Nat) (g_this_leaves : Nat → Int32) (x_this_pressed : Int32) (x_this_crossed : Int32) (x_this_went : Int32) (x_this_harmed : Int32) (hx_this_plan_walkers : ib x_this_plan_walkers 0 12) (hg_this_plan_comesAt : ia g_this_plan_comesAt 12 0 199) : k_Met l yX7_waitedByAll cX7_waitedByAll 3 (some .int) { frames := 1, cells := 0, slots := 0, locals := 21 } dC dI cy sq [.ref a_this] [(wo_7_rririiiirrrrriiii a_this a_this_machine a_this_plan x_this_day a_this_trusts x_this_rule x_this_green x_this_absent x_this_asksReds a_this_cars a_this_gaps a_this_known a_this_left a_this_leaves x_this_pressed x_this_crossed x_this_went x_this_harmed), (wo_4_iiiiiiirrrirrrrrir a_this_plan x_this_plan_cycle x_this_plan_green x_this_plan_rule x_this_plan_least x_this_plan_away x_this_plan_statements x_this_plan_kinds a_this_plan_calm a_this_plan_pace a_this_plan_trusts x_this_plan_walkers a_this_plan_kindOf a_this_plan_comesAt a_this_plan_comers a_this_plan_names a_this_plan_code x_this_plan_size a_this_plan_spans), (wi_0_12_0 a_this_leaves cy g_this_leaves), (wi_0_12_0 a_this_plan_comesAt cy g_this_plan_comesAt)] (k_Qi dC dI (fun (r : Int32) (_ : Unit) => (F_X7_waitedByAll (Int32.toInt x_this_plan_walkers) (lf_A g_this_plan_comesAt) (Int32.toInt x_this_absent) (lf_A g_this_leaves) = ((Int32.toInt r)))) (fun _ : Unit => [(wo_7_rririiiirrrrriiii a_this a_this_machine a_this_plan x_this_day a_this_trusts x_this_rule x_this_green x_this_absent x_this_asksReds a_this_cars a_this_gaps a_this_known a_this_left a_this_leaves x_this_pressed x_this_crossed x_this_went x_this_harmed), (wo_4_iiiiiiirrrirrrrrir a_this_plan x_this_plan_cycle x_this_plan_green x_this_plan_rule x_this_plan_least x_this_plan_away x_this_plan_statements x_this_plan_kinds a_this_plan_calm a_this_plan_pace a_this_plan_trusts x_this_plan_walkers a_this_plan_kindOf a_this_plan_comesAt a_this_plan_comers a_this_plan_names a_this_plan_code x_this_plan_size a_this_plan_spans), (wi_0_12_0 a_this_leaves cy g_this_leaves), (wi_0_12_0 a_this_plan_comesAt cy g_this_plan_comesAt)])) := by
  refine k_ofW2 (by decide +kernel) (Nat.le_of_ble_eq_true rfl) ?_
  intro p e s m below meth c A ls H locs args Q hQ C0 hZ hr hlk hin hP hD hA hS hl
  have C0 : k_cx p s m args c cX7_waitedByAll 3 RX7 dC dI cy sq := C0
  have hx := C0.1
  have hb := C0.2.1
  have hl : lv_has ls 3 [(0, .ref a_this)] := hl
  obtain ⟨O, hO⟩ : ∃ o, o = F_X7_waitedByAll (Int32.toInt x_this_plan_walkers) (lf_A g_this_plan_comesAt) (Int32.toInt x_this_absent) (lf_A g_this_leaves) := ⟨_, rfl⟩
  have hq := hO
  unfold F_X7_waitedByAll at hq
  have jn4 : ∀ (n : Nat) (J4_l1 : Int32) (J4_l2 : Int32) (H : Heap) (locs : List Loc) (ls : Array Slot), ib J4_l2 0 12 → (O = F_X7_waitedByAll_4 (Int32.toInt x_this_plan_walkers) (lf_A g_this_plan_comesAt) (Int32.toInt x_this_absent) (lf_A g_this_leaves) n (Int32.toInt J4_l1) (Int32.toInt J4_l2)) → 13 ≤ J4_l2.toInt + (n : Int) → va_P (dC, dI) vwCl [(wo_7_rririiiirrrrriiii a_this a_this_machine a_this_plan x_this_day a_this_trusts x_this_rule x_this_green x_this_absent x_this_asksReds a_this_cars a_this_gaps a_this_known a_this_left a_this_leaves x_this_pressed x_this_crossed x_this_went x_this_harmed), (wo_4_iiiiiiirrrirrrrrir a_this_plan x_this_plan_cycle x_this_plan_green x_this_plan_rule x_this_plan_least x_this_plan_away x_this_plan_statements x_this_plan_kinds a_this_plan_calm a_this_plan_pace a_this_plan_trusts x_this_plan_walkers a_this_plan_kindOf a_this_plan_comesAt a_this_plan_comers a_this_plan_names a_this_plan_code x_this_plan_size a_this_plan_spans), (wi_0_12_0 a_this_leaves cy g_this_leaves), (wi_0_12_0 a_this_plan_comesAt cy g_this_plan_comesAt)] H → va_D A [(wo_7_rririiiirrrrriiii a_this a_this_machine a_this_plan x_this_day a_this_trusts x_this_rule x_this_green x_this_absent x_this_asksReds a_this_cars a_this_gaps a_this_known a_this_left a_this_leaves x_this_pressed x_this_crossed x_this_went x_this_harmed), (wo_4_iiiiiiirrrirrrrrir a_this_plan x_this_plan_cycle x_this_plan_green x_this_plan_rule x_this_plan_least x_this_plan_away x_this_plan_statements x_this_plan_kinds a_this_plan_calm a_this_plan_pace a_this_plan_trusts x_this_plan_walkers a_this_plan_kindOf a_this_plan_comesAt a_this_plan_comers a_this_plan_names a_this_plan_code x_this_plan_size a_this_plan_spans), (wi_0_12_0 a_this_leaves cy g_this_leaves), (wi_0_12_0 a_this_plan_comesAt cy g_this_plan_comesAt)] → va_S A s.heap H locs → lv_has ls 3 [(0, .ref a_this), (1, .int J4_l1), (2, .int J4_l2)] → W p l e { frames := 1, cells := 0, slots := 0, locals := 21 } s m args below meth c H locs 0 0 Q (F0 m 4 ls []) := by
    as_aux_lemma =>
      intro n
      induction n with
      | zero =>
        intro J4_l1 J4_l2 H locs ls hJ4_l2 hq hm
        exact absurd hm (by have := hJ4_l2; unfold ib at this; omega)
      | succ n ih =>
        intro J4_l1 J4_l2 H locs ls hJ4_l2 hq hm4 hP hD hS hl
        have ih4 := ih
        obtain ⟨K4, hK4⟩ : ∃ K, K = F_X7_waitedByAll_4 (Int32.toInt x_this_plan_walkers) (lf_A g_this_plan_comesAt) (Int32.toInt x_this_absent) (lf_A g_this_leaves) n := ⟨_, rfl⟩
        have hq : O = F_X7_waitedByAll_4b (Int32.toInt x_this_plan_walkers) (lf_A g_this_plan_comesAt) (Int32.toInt x_this_absent) (lf_A g_this_leaves) K4 (Int32.toInt J4_l1) (Int32.toInt J4_l2) := by rw [hK4]; exact hq
        unfold F_X7_waitedByAll_4b at hq
        have jn34 : ∀ (J34_l1 : Int32) (H : Heap) (locs : List Loc) (ls : Array Slot), ib J4_l2 0 11 → ib x_this_plan_walkers 1 12 → (O = F_X7_waitedByAll_34 (Int32.toInt J4_l2) K4 (Int32.toInt J34_l1)) → va_P (dC, dI) vwCl [(wo_7_rririiiirrrrriiii a_this a_this_machine a_this_plan x_this_day a_this_trusts x_this_rule x_this_green x_this_absent x_this_asksReds a_this_cars a_this_gaps a_this_known a_this_left a_this_leaves x_this_pressed x_this_crossed x_this_went x_this_harmed), (wo_4_iiiiiiirrrirrrrrir a_this_plan x_this_plan_cycle x_this_plan_green x_this_plan_rule x_this_plan_least x_this_plan_away x_this_plan_statements x_this_plan_kinds a_this_plan_calm a_this_plan_pace a_this_plan_trusts x_this_plan_walkers a_this_plan_kindOf a_this_plan_comesAt a_this_plan_comers a_this_plan_names a_this_plan_code x_this_plan_size a_this_plan_spans), (wi_0_12_0 a_this_leaves cy g_this_leaves), (wi_0_12_0 a_this_plan_comesAt cy g_this_plan_comesAt)] H → va_D A [(wo_7_rririiiirrrrriiii a_this a_this_machine a_this_plan x_this_day a_this_trusts x_this_rule x_this_green x_this_absent x_this_asksReds a_this_cars a_this_gaps a_this_known a_this_left a_this_leaves x_this_pressed x_this_crossed x_this_went x_this_harmed), (wo_4_iiiiiiirrrirrrrrir a_this_plan x_this_plan_cycle x_this_plan_green x_this_plan_rule x_this_plan_least x_this_plan_away x_this_plan_statements x_this_plan_kinds a_this_plan_calm a_this_plan_pace a_this_plan_trusts x_this_plan_walkers a_this_plan_kindOf a_this_plan_comesAt a_this_plan_comers a_this_plan_names a_this_plan_code x_this_plan_size a_this_plan_spans), (wi_0_12_0 a_this_leaves cy g_this_leaves), (wi_0_12_0 a_this_plan_comesAt cy g_this_plan_comesAt)] → va_S A s.heap H locs → lv_has ls 3 [(0, .ref a_this), (1, .int J34_l1), (2, .int J4_l2)] → W p l e { frames := 1, cells := 0, slots := 0, locals := 21 } s m args below meth c H locs 0 0 Q (F0 m 34 ls []) := by
          intro J34_l1 H locs ls hK34_J4_l2 hK34_x_this_plan_walkers hq hP hD hS hl
          unfold F_X7_waitedByAll_34 at hq
          obtain ⟨z1, ez1⟩ : ∃ y : Int32, y = J4_l2 + 1 := ⟨_, rfl⟩
          refine lv_iinc (v := z1) (lv' := [(2, .int z1), (0, .ref a_this), (1, .int J34_l1)]) hx hb dX7_waitedByAll_34 hl (k := 2) rfl (by rw [ez1]; rfl) (Nat.le_of_ble_eq_true rfl) rfl (fun ls hl => ?_)
          have h2 := ib_add hK34_J4_l2 (ib_c 1 1 1 rfl) rfl
          rw [← ez1] at h2
          have h3 : ib z1 1 12 := ib_w 1 12 h2.1 rfl
          have Ez1 := lf_add h2.2 (lf_rf J4_l2) (lf_lc 1 (1 : Int) rfl)
          refine lv_goto (tgt := 4) hx hb dX7_waitedByAll_37 rfl ?_
          exact ih4 J34_l1 z1 H locs ls (ib_w 0 12 h3 rfl) (by rw [← hK4]; rw [lf_u Ez1]; exact hq) (by have := h2.2; have : (1 : Int32).toInt = 1 := rfl; omega) hP hD hS (lv_sub hl [1, 2, 0] rfl)
        refine lv_iload_n hx hb dX7_waitedByAll_4 rfl (lv_at hl 2 rfl) ?_
        refine lv_aload_n hx hb dX7_waitedByAll_5 rfl (lv_at hl 0 rfl) ?_
        refine k_get C0 fg_X7_63 hP 0 rfl rfl dX7_waitedByAll_6 ?_
        refine k_get C0 fg_X7_137 hP 1 rfl rfl dX7_waitedByAll_9 ?_
        refine lv_icmp_ge (tgt := 40) hx hb dX7_waitedByAll_12 rfl (fun c4 => ?_) (fun c4 => ?_)
        · replace hq := lf_pos hq (lf_le (lf_rf x_this_plan_walkers) (lf_rf J4_l2) c4)
          have h5 := ib_le hx_this_plan_walkers hJ4_l2 c4
          refine lv_iload_n hx hb dX7_waitedByAll_40 rfl (lv_at hl 1 rfl) ?_
          subst hQ; exact k_iret hx hb hr hlk rfl () hS ((hO.symm.trans (by exact hq))) hP hD (Nat.le_of_ble_eq_true rfl) (Nat.le_of_ble_eq_true rfl) dX7_waitedByAll_41
        · as_aux_lemma =>
            replace hq := lf_neg hq (lf_nle (lf_rf x_this_plan_walkers) (lf_rf J4_l2) c4)
            have h6 := ib_nle hx_this_plan_walkers hJ4_l2 c4
            have h7 : ib x_this_plan_walkers 1 12 := ib_w 1 12 h6.1 rfl
            have h8 : ib J4_l2 0 11 := ib_w 0 11 h6.2 rfl
            refine lv_aload_n hx hb dX7_waitedByAll_15 rfl (lv_at hl 0 rfl) ?_
            refine k_get C0 fg_X7_25 hP 0 rfl rfl dX7_waitedByAll_16 ?_
            refine lv_iload_n hx hb dX7_waitedByAll_19 rfl (lv_at hl 2 rfl) ?_
            refine lv_ishr hx hb dX7_waitedByAll_20 ?_
            refine lv_topi (fun z9 ez9 => ?_)
            have Ez9 := lf_op lf_ishr ez9 (lf_rf x_this_absent) (lf_rf J4_l2)
            refine lv_iconst (v := 1) hx hb dX7_waitedByAll_21 rfl ?_
            refine lv_iand hx hb dX7_waitedByAll_22 ?_
            refine lv_topi (fun z10 ez10 => ?_)
            have h11 : ib z10 0 1 := by rw [ez10]; exact ib_and 1 (by decide) (by decide) 1 (by decide)
            have Ez10 := lf_op lf_iand ez10 Ez9 (lf_lc 1 (1 : Int) rfl)
            refine lv_if_ne (tgt := 34) hx hb dX7_waitedByAll_23 rfl (fun c12 => ?_) (fun c12 => ?_)
            · replace hq := lf_neg hq (lf_ne Ez10 (lf_lc 0 (0 : Int) rfl) c12)
              have h13 : ib z10 1 1 := ib_w 1 1 (ib_ne_lo 0 h11 rfl c12) rfl
              exact jn34 J4_l1 H locs ls (ib_w 0 11 h8 rfl) (ib_w 1 12 h7 rfl) (by exact hq) hP hD hS (lv_sub hl [0, 1, 2] rfl)
            · replace hq := lf_pos hq (lf_eq Ez10 (lf_lc 0 (0 : Int) rfl) c12)
              have h14 := ib_eq h11 (ib_c 0 0 0 rfl) c12
              have h15 : ib z10 0 0 := ib_w 0 0 h14.1 rfl
              refine lv_iload_n hx hb dX7_waitedByAll_26 rfl (lv_at hl 1 rfl) ?_
              refine lv_aload_n hx hb dX7_waitedByAll_27 rfl (lv_at hl 0 rfl) ?_
              refine lv_iload_n hx hb dX7_waitedByAll_28 rfl (lv_at hl 2 rfl) ?_
              refine k_jim hP hD hS hA [0, 2, 1, 3] [] rfl rfl rfl 0 0 (Nat.le_of_ble_eq_true rfl) (Nat.le_of_ble_eq_true rfl) (fun hPc hDc => k_runV (As := [.int J4_l2]) (rest := [.int J4_l1]) C0 hZ hS hA (s_X7_waitedBy l dC dI cy sq a_this a_this_machine a_this_plan x_this_plan_cycle x_this_plan_green x_this_plan_rule x_this_plan_least x_this_plan_away x_this_plan_statements x_this_plan_kinds a_this_plan_calm a_this_plan_pace a_this_plan_trusts x_this_plan_walkers a_this_plan_kindOf a_this_plan_comesAt g_this_plan_comesAt a_this_plan_comers a_this_plan_names a_this_plan_code x_this_plan_size a_this_plan_spans x_this_day a_this_trusts x_this_rule x_this_green x_this_absent x_this_asksReds a_this_cars a_this_gaps a_this_known a_this_left a_this_leaves g_this_leaves x_this_pressed x_this_crossed x_this_went x_this_harmed J4_l2 hg_this_plan_comesAt (ib_w 0 11 h8 rfl)) mV_X7_163 hPc hDc rfl rfl rfl hl rfl rfl (Nat.le_of_ble_eq_true rfl) ⟨(Nat.le_of_ble_eq_true rfl), (Nat.le_of_ble_eq_true rfl)⟩ ⟨(Nat.le_of_ble_eq_true rfl), (Nat.le_of_ble_eq_true rfl)⟩ dX7_waitedByAll_29) (fun r16 u17 H locs hw hP hD hS => ?_)
              try dsimp only at hP hD hw
              replace hP : va_P (dC, dI) vwCl [(wo_7_rririiiirrrrriiii a_this a_this_machine a_this_plan x_this_day a_this_trusts x_this_rule x_this_green x_this_absent x_this_asksReds a_this_cars a_this_gaps a_this_known a_this_left a_this_leaves x_this_pressed x_this_crossed x_this_went x_this_harmed), (wi_0_12_0 a_this_leaves cy g_this_leaves), (wo_4_iiiiiiirrrirrrrrir a_this_plan x_this_plan_cycle x_this_plan_green x_this_plan_rule x_this_plan_least x_this_plan_away x_this_plan_statements x_this_plan_kinds a_this_plan_calm a_this_plan_pace a_this_plan_trusts x_this_plan_walkers a_this_plan_kindOf a_this_plan_comesAt a_this_plan_comers a_this_plan_names a_this_plan_code x_this_plan_size a_this_plan_spans), (wi_0_12_0 a_this_plan_comesAt cy g_this_plan_comesAt)] H := hP
              replace hD := k_D hP hD
              have h18 := hw
              replace hq := lf_b1 hq h18
              refine lv_iadd hx hb dX7_waitedByAll_32 ?_
              refine lv_topi (fun z19 ez19 => ?_)
              have Ez19 := lf_op lf_iadd ez19 (lf_rf J4_l1) (lf_rf r16)
              refine lv_istore_n (lv' := [(1, .int z19), (0, .ref a_this), (2, .int J4_l2)]) hx hb dX7_waitedByAll_33 rfl hl (Nat.le_of_ble_eq_true rfl) rfl (fun ls hl => ?_)
              exact jn34 z19 H locs ls (ib_w 0 11 h8 rfl) (ib_w 1 12 h7 rfl) (by rw [lf_u Ez19]; exact hq) (hP.sub [0, 2, 1, 3] rfl) (hD.sub [0, 2, 1, 3] rfl rfl) hS (lv_sub hl [1, 0, 2] rfl)
  refine lv_iconst (v := 0) hx hb dX7_waitedByAll_0 rfl ?_
  refine lv_istore_n (lv' := [(1, .int 0), (0, .ref a_this)]) hx hb dX7_waitedByAll_1 rfl hl (Nat.le_of_ble_eq_true rfl) rfl (fun ls hl => ?_)
  refine lv_iconst (v := 0) hx hb dX7_waitedByAll_2 rfl ?_
  refine lv_istore_n (lv' := [(2, .int 0), (1, .int 0), (0, .ref a_this)]) hx hb dX7_waitedByAll_3 rfl hl (Nat.le_of_ble_eq_true rfl) rfl (fun ls hl => ?_)
  exact jn4 14 0 0 H locs ls (ib_w 0 12 (ib_c 0 0 0 rfl) rfl) (by try simp only [show (0 : Int32).toInt = (0 : Int) from rfl]; exact hq) (by have := (ib_c 0 0 0 rfl); unfold ib at this; omega) hP hD hS (lv_sub hl [2, 1, 0] rfl)
set_option maxHeartbeats 4000000 in
set_option maxRecDepth 100000 in
theorem s_X7_told_a0_0 (l : Launch) (dC : Nat → ClassId) (dI : Nat → Nat → Nat) (cy : Nat → ClassId) (sq : Nat → Nat) (a_this : Nat) (a_this_machine : Nat) (a_this_plan : Nat) (x_this_plan_cycle : Int32) (x_this_plan_green : Int32) (x_this_plan_rule : Int32) (x_this_plan_least : Int32) (x_this_plan_away : Int32) (x_this_plan_statements : Int32) (x_this_plan_kinds : Int32) (a_this_plan_calm : Nat) (a_this_plan_pace : Nat) (a_this_plan_trusts : Nat) (x_this_plan_walkers : Int32) (a_this_plan_kindOf : Nat) (a_this_plan_comesAt : Nat) (g_this_plan_comesAt : Nat → Int32) (a_this_plan_comers : Nat) (a_this_plan_names : Nat) (a_this_plan_code : Nat) (x_this_plan_size : Int32) (a_this_plan_spans : Nat) (x_this_day : Int32) (a_this_trusts : Nat) (x_this_rule : Int32) (x_this_green : Int32) (x_this_absent : Int32) (x_this_asksReds : Int32) (a_this_cars : Nat) (a_this_gaps : Nat) (a_this_known : Nat) (a_this_left : Nat) (a_this_leaves : Nat) (g_this_leaves : Nat → Int32) (x_this_pressed : Int32) (x_this_crossed : Int32) (x_this_went : Int32) (x_this_harmed : Int32) (hx_this_plan_walkers : ib x_this_plan_walkers 0 12) (hg_this_plan_comesAt : ia g_this_plan_comesAt 12 0 199) : k_Met l yX7_told cX7_told 2 (some .int) { frames := 2, cells := 0, slots := 0, locals := 43 } dC dI cy sq [.ref a_this, .int 0] [(wo_7_rririiiirrrrriiii a_this a_this_machine a_this_plan x_this_day a_this_trusts x_this_rule x_this_green x_this_absent x_this_asksReds a_this_cars a_this_gaps a_this_known a_this_left a_this_leaves x_this_pressed x_this_crossed x_this_went x_this_harmed), (wo_4_iiiiiiirrrirrrrrir a_this_plan x_this_plan_cycle x_this_plan_green x_this_plan_rule x_this_plan_least x_this_plan_away x_this_plan_statements x_this_plan_kinds a_this_plan_calm a_this_plan_pace a_this_plan_trusts x_this_plan_walkers a_this_plan_kindOf a_this_plan_comesAt a_this_plan_comers a_this_plan_names a_this_plan_code x_this_plan_size a_this_plan_spans), (wi_0_12_0 a_this_leaves cy g_this_leaves), (wi_0_12_0 a_this_plan_comesAt cy g_this_plan_comesAt)] (k_Qi dC dI (fun (r : Int32) (_ : Unit) => (F_X7_told_a0_0 (Int32.toInt x_this_plan_walkers) (lf_A g_this_plan_comesAt) (Int32.toInt x_this_absent) (lf_A g_this_leaves) = ((Int32.toInt r)))) (fun _ : Unit => [(wo_7_rririiiirrrrriiii a_this a_this_machine a_this_plan x_this_day a_this_trusts x_this_rule x_this_green x_this_absent x_this_asksReds a_this_cars a_this_gaps a_this_known a_this_left a_this_leaves x_this_pressed x_this_crossed x_this_went x_this_harmed), (wo_4_iiiiiiirrrirrrrrir a_this_plan x_this_plan_cycle x_this_plan_green x_this_plan_rule x_this_plan_least x_this_plan_away x_this_plan_statements x_this_plan_kinds a_this_plan_calm a_this_plan_pace a_this_plan_trusts x_this_plan_walkers a_this_plan_kindOf a_this_plan_comesAt a_this_plan_comers a_this_plan_names a_this_plan_code x_this_plan_size a_this_plan_spans), (wi_0_12_0 a_this_leaves cy g_this_leaves), (wi_0_12_0 a_this_plan_comesAt cy g_this_plan_comesAt)])) := by
  refine k_ofW2 (by decide +kernel) (Nat.le_of_ble_eq_true rfl) ?_
  intro p e s m below meth c A ls H locs args Q hQ C0 hZ hr hlk hin hP hD hA hS hl
  have C0 : k_cx p s m args c cX7_told 2 RX7 dC dI cy sq := C0
  have hx := C0.1
  have hb := C0.2.1
  have hl : lv_has ls 2 [(0, .ref a_this), (1, .int 0)] := hl
  obtain ⟨O, hO⟩ : ∃ o, o = F_X7_told_a0_0 (Int32.toInt x_this_plan_walkers) (lf_A g_this_plan_comesAt) (Int32.toInt x_this_absent) (lf_A g_this_leaves) := ⟨_, rfl⟩
  have hq := hO
  unfold F_X7_told_a0_0 at hq
  refine lv_iload_n hx hb dX7_told_0 rfl (lv_at hl 1 rfl) ?_
  refine lv_tableIn (off := 39) (tgt := 40) hx hb dX7_told_1 (by decide) (by decide) (by decide) (by decide) ?_
  refine lv_aload_n hx hb dX7_told_40 rfl (lv_at hl 0 rfl) ?_
  refine k_jim hP hD hS hA [0, 1, 2, 3] [] rfl rfl rfl 0 0 (Nat.le_of_ble_eq_true rfl) (Nat.le_of_ble_eq_true rfl) (fun hPc hDc => k_runV (As := []) (rest := []) C0 hZ hS hA (s_X7_waitedByAll l dC dI cy sq a_this a_this_machine a_this_plan x_this_plan_cycle x_this_plan_green x_this_plan_rule x_this_plan_least x_this_plan_away x_this_plan_statements x_this_plan_kinds a_this_plan_calm a_this_plan_pace a_this_plan_trusts x_this_plan_walkers a_this_plan_kindOf a_this_plan_comesAt g_this_plan_comesAt a_this_plan_comers a_this_plan_names a_this_plan_code x_this_plan_size a_this_plan_spans x_this_day a_this_trusts x_this_rule x_this_green x_this_absent x_this_asksReds a_this_cars a_this_gaps a_this_known a_this_left a_this_leaves g_this_leaves x_this_pressed x_this_crossed x_this_went x_this_harmed (ib_w 0 12 hx_this_plan_walkers rfl) hg_this_plan_comesAt) mV_X7_166 hPc hDc rfl rfl rfl hl rfl rfl (Nat.le_of_ble_eq_true rfl) ⟨(Nat.le_of_ble_eq_true rfl), (Nat.le_of_ble_eq_true rfl)⟩ ⟨(Nat.le_of_ble_eq_true rfl), (Nat.le_of_ble_eq_true rfl)⟩ dX7_told_41) (fun r1 u2 H locs hw hP hD hS => ?_)
  try dsimp only at hP hD hw
  replace hP : va_P (dC, dI) vwCl [(wo_7_rririiiirrrrriiii a_this a_this_machine a_this_plan x_this_day a_this_trusts x_this_rule x_this_green x_this_absent x_this_asksReds a_this_cars a_this_gaps a_this_known a_this_left a_this_leaves x_this_pressed x_this_crossed x_this_went x_this_harmed), (wo_4_iiiiiiirrrirrrrrir a_this_plan x_this_plan_cycle x_this_plan_green x_this_plan_rule x_this_plan_least x_this_plan_away x_this_plan_statements x_this_plan_kinds a_this_plan_calm a_this_plan_pace a_this_plan_trusts x_this_plan_walkers a_this_plan_kindOf a_this_plan_comesAt a_this_plan_comers a_this_plan_names a_this_plan_code x_this_plan_size a_this_plan_spans), (wi_0_12_0 a_this_leaves cy g_this_leaves), (wi_0_12_0 a_this_plan_comesAt cy g_this_plan_comesAt)] H := hP
  replace hD := k_D hP hD
  have h3 := hw
  replace hq := lf_b1 hq h3
  subst hQ; exact k_iret hx hb hr hlk rfl () hS ((hO.symm.trans (by exact hq))) hP hD (Nat.le_of_ble_eq_true rfl) (Nat.le_of_ble_eq_true rfl) dX7_told_44
set_option maxHeartbeats 4000000 in
set_option maxRecDepth 100000 in
theorem s_J6_bitCount_0f7a4 (l : Launch) (dC : Nat → ClassId) (dI : Nat → Nat → Nat) (cy : Nat → ClassId) (sq : Nat → Nat) (p0 : Int32)  : k_Met l yJ6_bitCount_0f7a4 cJ6_bitCount_0f7a4 1 (some .int) { frames := 0, cells := 0, slots := 0, locals := 0 } dC dI cy sq [.int p0] [] (k_Qi dC dI (fun (r : Int32) (_ : Unit) => ib r 0 63 ∧ (F_J6_bitCount_0f7a4 (Int32.toInt p0) = ((Int32.toInt r)))) (fun _ : Unit => [])) := by
  refine k_ofW2 (by decide +kernel) (Nat.le_of_ble_eq_true rfl) ?_
  intro p e s m below meth c A ls H locs args Q hQ C0 hZ hr hlk hin hP hD hA hS hl
  have C0 : k_cx p s m args c cJ6_bitCount_0f7a4 1 RJ6 dC dI cy sq := C0
  have hx := C0.1
  have hb := C0.2.1
  have hl : lv_has ls 1 [(0, .int p0)] := hl
  obtain ⟨O, hO⟩ : ∃ o, o = F_J6_bitCount_0f7a4 (Int32.toInt p0) := ⟨_, rfl⟩
  have hq := hO
  unfold F_J6_bitCount_0f7a4 at hq
  refine lv_iload_n hx hb dJ6_bitCount_0f7a4_0 rfl (lv_at hl 0 rfl) ?_
  refine lv_iload_n hx hb dJ6_bitCount_0f7a4_1 rfl (lv_at hl 0 rfl) ?_
  refine lv_iconst (v := 1) hx hb dJ6_bitCount_0f7a4_2 rfl ?_
  refine lv_iushr hx hb dJ6_bitCount_0f7a4_3 rfl ?_
  refine lv_topi (fun z1 ez1 => ?_)
  have Ez1 := lf_op lf_iushr ez1 (lf_rf p0) (lf_lc 1 (1 : Int) rfl)
  refine lv_ldcw hx hb C0.2.2.2.1 (C0.2.2.2.2.1 _ wd1031) dJ6_bitCount_0f7a4_4 ?_
  refine lv_iand hx hb dJ6_bitCount_0f7a4_7 ?_
  refine lv_topi (fun z2 ez2 => ?_)
  have Ez2 := lf_op lf_iand ez2 Ez1 (lf_lc 1431655765 (1431655765 : Int) rfl)
  refine lv_isub hx hb dJ6_bitCount_0f7a4_8 ?_
  refine lv_topi (fun z3 ez3 => ?_)
  have Ez3 := lf_op lf_isub ez3 (lf_rf p0) Ez2
  refine lv_istore_n (lv' := [(0, .int z3)]) hx hb dJ6_bitCount_0f7a4_9 rfl hl (Nat.le_of_ble_eq_true rfl) rfl (fun ls hl => ?_)
  refine lv_iload_n hx hb dJ6_bitCount_0f7a4_10 rfl (lv_at hl 0 rfl) ?_
  refine lv_ldcw hx hb C0.2.2.2.1 (C0.2.2.2.2.1 _ wd1032) dJ6_bitCount_0f7a4_11 ?_
  refine lv_iand hx hb dJ6_bitCount_0f7a4_14 ?_
  refine lv_topi (fun z4 ez4 => ?_)
  have Ez4 := lf_op lf_iand ez4 Ez3 (lf_lc 858993459 (858993459 : Int) rfl)
  refine lv_iload_n hx hb dJ6_bitCount_0f7a4_15 rfl (lv_at hl 0 rfl) ?_
  refine lv_iconst (v := 2) hx hb dJ6_bitCount_0f7a4_16 rfl ?_
  as_aux_lemma =>
    refine lv_iushr hx hb dJ6_bitCount_0f7a4_17 rfl ?_
    refine lv_topi (fun z5 ez5 => ?_)
    have Ez5 := lf_op lf_iushr ez5 Ez3 (lf_lc 2 (2 : Int) rfl)
    refine lv_ldcw hx hb C0.2.2.2.1 (C0.2.2.2.2.1 _ wd1032) dJ6_bitCount_0f7a4_18 ?_
    refine lv_iand hx hb dJ6_bitCount_0f7a4_21 ?_
    refine lv_topi (fun z6 ez6 => ?_)
    have Ez6 := lf_op lf_iand ez6 Ez5 (lf_lc 858993459 (858993459 : Int) rfl)
    refine lv_iadd hx hb dJ6_bitCount_0f7a4_22 ?_
    refine lv_topi (fun z7 ez7 => ?_)
    have Ez7 := lf_op lf_iadd ez7 Ez4 Ez6
    refine lv_istore_n (lv' := [(0, .int z7)]) hx hb dJ6_bitCount_0f7a4_23 rfl hl (Nat.le_of_ble_eq_true rfl) rfl (fun ls hl => ?_)
    refine lv_iload_n hx hb dJ6_bitCount_0f7a4_24 rfl (lv_at hl 0 rfl) ?_
    refine lv_iload_n hx hb dJ6_bitCount_0f7a4_25 rfl (lv_at hl 0 rfl) ?_
    refine lv_iconst (v := 4) hx hb dJ6_bitCount_0f7a4_26 rfl ?_
    refine lv_iushr hx hb dJ6_bitCount_0f7a4_27 rfl ?_
    refine lv_topi (fun z8 ez8 => ?_)
    have Ez8 := lf_op lf_iushr ez8 Ez7 (lf_lc 4 (4 : Int) rfl)
    refine lv_iadd hx hb dJ6_bitCount_0f7a4_28 ?_
    refine lv_topi (fun z9 ez9 => ?_)
    have Ez9 := lf_op lf_iadd ez9 Ez7 Ez8
    refine lv_ldcw hx hb C0.2.2.2.1 (C0.2.2.2.2.1 _ wd1033) dJ6_bitCount_0f7a4_29 ?_
    refine lv_iand hx hb dJ6_bitCount_0f7a4_32 ?_
    refine lv_topi (fun z10 ez10 => ?_)
    have Ez10 := lf_op lf_iand ez10 Ez9 (lf_lc 252645135 (252645135 : Int) rfl)
    refine lv_istore_n (lv' := [(0, .int z10)]) hx hb dJ6_bitCount_0f7a4_33 rfl hl (Nat.le_of_ble_eq_true rfl) rfl (fun ls hl => ?_)
    refine lv_iload_n hx hb dJ6_bitCount_0f7a4_34 rfl (lv_at hl 0 rfl) ?_
    refine lv_iload_n hx hb dJ6_bitCount_0f7a4_35 rfl (lv_at hl 0 rfl) ?_
    refine lv_bipush (v := 8) hx hb dJ6_bitCount_0f7a4_36 rfl ?_
    refine lv_iushr hx hb dJ6_bitCount_0f7a4_38 rfl ?_
    refine lv_topi (fun z11 ez11 => ?_)
    as_aux_lemma =>
      have Ez11 := lf_op lf_iushr ez11 Ez10 (lf_lc 8 (8 : Int) rfl)
      refine lv_iadd hx hb dJ6_bitCount_0f7a4_39 ?_
      refine lv_topi (fun z12 ez12 => ?_)
      have Ez12 := lf_op lf_iadd ez12 Ez10 Ez11
      refine lv_istore_n (lv' := [(0, .int z12)]) hx hb dJ6_bitCount_0f7a4_40 rfl hl (Nat.le_of_ble_eq_true rfl) rfl (fun ls hl => ?_)
      refine lv_iload_n hx hb dJ6_bitCount_0f7a4_41 rfl (lv_at hl 0 rfl) ?_
      refine lv_iload_n hx hb dJ6_bitCount_0f7a4_42 rfl (lv_at hl 0 rfl) ?_
      refine lv_bipush (v := 16) hx hb dJ6_bitCount_0f7a4_43 rfl ?_
      refine lv_iushr hx hb dJ6_bitCount_0f7a4_45 rfl ?_
      refine lv_topi (fun z13 ez13 => ?_)
      have Ez13 := lf_op lf_iushr ez13 Ez12 (lf_lc 16 (16 : Int) rfl)
      refine lv_iadd hx hb dJ6_bitCount_0f7a4_46 ?_
      refine lv_topi (fun z14 ez14 => ?_)
      have Ez14 := lf_op lf_iadd ez14 Ez12 Ez13
      refine lv_istore_n (lv' := [(0, .int z14)]) hx hb dJ6_bitCount_0f7a4_47 rfl hl (Nat.le_of_ble_eq_true rfl) rfl (fun ls hl => ?_)
      refine lv_iload_n hx hb dJ6_bitCount_0f7a4_48 rfl (lv_at hl 0 rfl) ?_
      refine lv_bipush (v := 63) hx hb dJ6_bitCount_0f7a4_49 rfl ?_
      refine lv_iand hx hb dJ6_bitCount_0f7a4_51 ?_
      refine lv_topi (fun z15 ez15 => ?_)
      have h16 : ib z15 0 63 := by rw [ez15]; exact ib_and 6 (by decide) (by decide) 63 (by decide)
      have Ez15 := lf_op lf_iand ez15 Ez14 (lf_lc 63 (63 : Int) rfl)
      subst hQ; exact k_iret hx hb hr hlk rfl () hS ⟨ib_w 0 63 h16 rfl, (hO.symm.trans (by rw [lf_u Ez15]; exact hq))⟩ hP hD (Nat.le_of_ble_eq_true rfl) (Nat.le_of_ble_eq_true rfl) dJ6_bitCount_0f7a4_52
