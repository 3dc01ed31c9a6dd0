set_option maxHeartbeats 4000000 in
set_option maxRecDepth 100000 in
theorem s_X10_letter (l : Launch) (dC : Nat → ClassId) (dI : Nat → Nat → Nat) (cy : Nat → ClassId) (sq : Nat → Nat) (a_this : Nat) (rm : Nat → Nat) (x_taped : Int32) (x_at : Int32) (x_end : Int32) (x_ended : Int32) (x_bad : Int32) (x_badPlace : Int32) (x_fault : Int32) (x_faultPlace : Int32) (x_namePlace : Int32) (x_awayTold : Int32) (x_away : Int32) (x_coded : Int32) (x_statements : Int32) (x_isCrossing : Int32) (x_textKind : Int32) (x_askSecond : Int32) (x_redMany : Int32) (x_isOpen : Int32) (x_lastGreen : Int32) (x_greenTo : Int32) (x_isCycleGreen : Int32) (x_stillGreen : Int32) (x_rowMany : Int32) (x_fitMany : Int32) (x_fitRules : Int32) (x_fitGreen : Int32) (x_undoable : Int32) (x_newest : Int32) (x_seeded : Int64) (x_qCoded : Int32) (x_qWaits : Int32) (x_qOpened : Int32) (x_qBase : Int32) (x_qPiled : Int32) (x_qAnswer : Int64) (x_qIsNew : Int32) (x_octets : Int32) (g_many : Nat → Int32) (g_names : Nat → Int64) (p0 : Int32) (p1 : Int32) (p2 : Int32) (hg_many : ia g_many 4 0 12) : k_Met l yX10_letter cX10_letter 9 (some .int) { frames := 1, cells := 0, slots := 0, locals := 25 } dC dI cy sq [.ref a_this, .int p0, .int p1, .int p2] [(a_this, .inr (10, mfs rm x_taped x_at x_end x_ended x_bad x_badPlace x_fault x_faultPlace x_namePlace x_awayTold x_away x_coded x_statements x_isCrossing x_textKind x_askSecond x_redMany x_isOpen x_lastGreen x_greenTo x_isCycleGreen x_stillGreen x_rowMany x_fitMany x_fitRules x_fitGreen x_undoable x_newest x_seeded x_qCoded x_qWaits x_qOpened x_qBase x_qPiled x_qAnswer x_qIsNew x_octets)), ((rm 41), .inl (cy 0, 4, .inl g_many)), ((rm 42), .inl (cy 1, 48, .inr (.inl g_names)))] (k_Qi dC dI (fun (r : Int32) (_ : Unit) => True) (fun _ : Unit => [(a_this, .inr (10, mfs rm x_taped x_at x_end x_ended x_bad x_badPlace x_fault x_faultPlace x_namePlace x_awayTold x_away x_coded x_statements x_isCrossing x_textKind x_askSecond x_redMany x_isOpen x_lastGreen x_greenTo x_isCycleGreen x_stillGreen x_rowMany x_fitMany x_fitRules x_fitGreen x_undoable x_newest x_seeded x_qCoded x_qWaits x_qOpened x_qBase x_qPiled x_qAnswer x_qIsNew x_octets)), ((rm 41), .inl (cy 0, 4, .inl g_many)), ((rm 42), .inl (cy 1, 48, .inr (.inl g_names)))])) := by
  refine k_ofW2 (by decide +kernel) (Nat.le_of_ble_eq_true rfl) ?_
  intro p e s m below meth c A ls H locs args Q hQ C0 hZ hr hlk hin hP hD hA hS hl
  have C0 : k_cx p s m args c cX10_letter 9 RX10 dC dI cy sq := C0
  have hx := C0.1
  have hb := C0.2.1
  have hl : lv_has ls 9 [(0, .ref a_this), (1, .int p0), (2, .int p1), (3, .int p2)] := hl
  have jn102 : ∀ (n : Nat) (J102_l4 : Int64) (J102_l6 : Int32) (J102_l7 : Int32) (H : Heap) (locs : List Loc) (ls : Array Slot), ib p0 0 1 → ib p1 0 11 → ib p2 0 5 → ib J102_l6 1 2147483647 → ib J102_l7 0 2147483646 → J102_l7.toInt - (-1) ≤ (n : Int) → va_P (dC, dI) vwCl [(a_this, .inr (10, mfs rm x_taped x_at x_end x_ended x_bad x_badPlace x_fault x_faultPlace x_namePlace x_awayTold x_away x_coded x_statements x_isCrossing x_textKind x_askSecond x_redMany x_isOpen x_lastGreen x_greenTo x_isCycleGreen x_stillGreen x_rowMany x_fitMany x_fitRules x_fitGreen x_undoable x_newest x_seeded x_qCoded x_qWaits x_qOpened x_qBase x_qPiled x_qAnswer x_qIsNew x_octets)), ((rm 41), .inl (cy 0, 4, .inl g_many)), ((rm 42), .inl (cy 1, 48, .inr (.inl g_names)))] H → va_D A [(a_this, .inr (10, mfs rm x_taped x_at x_end x_ended x_bad x_badPlace x_fault x_faultPlace x_namePlace x_awayTold x_away x_coded x_statements x_isCrossing x_textKind x_askSecond x_redMany x_isOpen x_lastGreen x_greenTo x_isCycleGreen x_stillGreen x_rowMany x_fitMany x_fitRules x_fitGreen x_undoable x_newest x_seeded x_qCoded x_qWaits x_qOpened x_qBase x_qPiled x_qAnswer x_qIsNew x_octets)), ((rm 41), .inl (cy 0, 4, .inl g_many)), ((rm 42), .inl (cy 1, 48, .inr (.inl g_names)))] → va_S A s.heap H locs → lv_has ls 9 [(0, .ref a_this), (1, .int p0), (2, .int p1), (3, .int p2), (4, .long J102_l4), (6, .int J102_l6), (7, .int J102_l7)] → W p l e { frames := 1, cells := 0, slots := 0, locals := 25 } s m args below meth c H locs 0 0 Q (F0 m 102 ls []) := by
    intro n
    induction n with
    | zero =>
      intro J102_l4 J102_l6 J102_l7 H locs ls hK102_p0 hK102_p1 hK102_p2 hJ102_l6 hJ102_l7 hm
      exact absurd hm (by have := hJ102_l7; unfold ib at this; omega)
    | succ n ih =>
      intro J102_l4 J102_l6 J102_l7 H locs ls hK102_p0 hK102_p1 hK102_p2 hJ102_l6 hJ102_l7 hm102 hP hD hS hl
      have ih102 := ih
      refine lv_iload hx hb dX10_letter_102 (lv_at hl 6 rfl) ?_
      refine lv_iload_n hx hb dX10_letter_104 rfl (lv_at hl 3 rfl) ?_
      refine lv_icmp_le (tgt := 122) hx hb dX10_letter_105 (by decide) (fun c1 => ?_) (fun c1 => ?_)
      · have h2 := ib_le hJ102_l7 hK102_p2 c1
        have h3 : ib J102_l7 0 5 := ib_w 0 5 h2.1 (by decide)
        refine lv_lload hx hb dX10_letter_122 (lv_at hl 4 rfl) ?_
        refine lv_ldc2 hx hb C0.2.2.2.1 (C0.2.2.2.2.1 _ wd626) dX10_letter_124 ?_
        refine lv_lrem hx hb dX10_letter_127 (by decide) ?_
        refine lv_topl (fun z4 ez4 => ?_)
        refine lv_l2i hx hb dX10_letter_128 rfl ?_
        refine lv_topi (fun z5 ez5 => ?_)
        subst hQ; exact k_iret hx hb hr hlk rfl () hS True.intro hP hD (Nat.le_of_ble_eq_true rfl) (Nat.le_of_ble_eq_true rfl) dX10_letter_129
      · have h6 := ib_nle hJ102_l7 hK102_p2 c1
        have h7 : ib J102_l7 1 2147483646 := ib_w 1 2147483646 h6.1 (by decide)
        refine lv_lload hx hb dX10_letter_108 (lv_at hl 4 rfl) ?_
        refine lv_ldc2 hx hb C0.2.2.2.1 (C0.2.2.2.2.1 _ wd626) dX10_letter_110 ?_
        refine lv_ldiv hx hb dX10_letter_113 (by decide) ?_
        refine lv_topl (fun z8 ez8 => ?_)
        refine lv_lstore (lv' := [(4, .long z8), (0, .ref a_this), (1, .int p0), (2, .int p1), (3, .int p2), (6, .int J102_l6), (7, .int J102_l7)]) hx hb dX10_letter_114 hl (by decide) rfl (fun ls hl => ?_)
        obtain ⟨z9, ez9⟩ : ∃ y : Int32, y = J102_l7 + (-1) := ⟨_, rfl⟩
        refine lv_iinc (v := z9) (lv' := [(7, .int z9), (4, .long z8), (0, .ref a_this), (1, .int p0), (2, .int p1), (3, .int p2), (6, .int J102_l6)]) hx hb dX10_letter_116 hl (k := 6) rfl (by rw [ez9]; rfl) (by decide) rfl (fun ls hl => ?_)
        have h10 := ib_add h7 (ib_c (-1) (-1) (-1) (by decide)) (by decide)
        rw [← ez9] at h10
        have h11 : ib z9 0 2147483645 := ib_w 0 2147483645 h10.1 (by decide)
        refine lv_goto (tgt := 102) hx hb dX10_letter_119 (by decide) ?_
        exact ih102 z8 J102_l6 z9 H locs ls (ib_w 0 1 hK102_p0 (by decide)) (ib_w 0 11 hK102_p1 (by decide)) (ib_w 0 5 hK102_p2 (by decide)) (ib_w 1 2147483647 hJ102_l6 (by decide)) (ib_w 0 2147483646 h11 (by decide)) (by have := h10.2; have : ((-1) : Int32).toInt = (-1) := (by decide); omega) hP hD hS (lv_sub hl [2, 3, 4, 5, 1, 6, 0] rfl)
  have jn67 : ∀ (n : Nat) (J67_l4 : Int64) (J67_l7 : Int64) (J67_l6 : Int32) (H : Heap) (locs : List Loc) (ls : Array Slot), ib p0 0 1 → ib p1 0 11 → ib p2 0 5 → J67_l7.toInt.toNat < n → va_P (dC, dI) vwCl [(a_this, .inr (10, mfs rm x_taped x_at x_end x_ended x_bad x_badPlace x_fault x_faultPlace x_namePlace x_awayTold x_away x_coded x_statements x_isCrossing x_textKind x_askSecond x_redMany x_isOpen x_lastGreen x_greenTo x_isCycleGreen x_stillGreen x_rowMany x_fitMany x_fitRules x_fitGreen x_undoable x_newest x_seeded x_qCoded x_qWaits x_qOpened x_qBase x_qPiled x_qAnswer x_qIsNew x_octets)), ((rm 41), .inl (cy 0, 4, .inl g_many)), ((rm 42), .inl (cy 1, 48, .inr (.inl g_names)))] H → va_D A [(a_this, .inr (10, mfs rm x_taped x_at x_end x_ended x_bad x_badPlace x_fault x_faultPlace x_namePlace x_awayTold x_away x_coded x_statements x_isCrossing x_textKind x_askSecond x_redMany x_isOpen x_lastGreen x_greenTo x_isCycleGreen x_stillGreen x_rowMany x_fitMany x_fitRules x_fitGreen x_undoable x_newest x_seeded x_qCoded x_qWaits x_qOpened x_qBase x_qPiled x_qAnswer x_qIsNew x_octets)), ((rm 41), .inl (cy 0, 4, .inl g_many)), ((rm 42), .inl (cy 1, 48, .inr (.inl g_names)))] → va_S A s.heap H locs → lv_has ls 9 [(0, .ref a_this), (1, .int p0), (2, .int p1), (3, .int p2), (4, .long J67_l4), (6, .int J67_l6), (7, .long J67_l7)] → W p l e { frames := 1, cells := 0, slots := 0, locals := 25 } s m args below meth c H locs 0 0 Q (F0 m 67 ls []) := by
    intro n
    induction n with
    | zero =>
      intro J67_l4 J67_l7 J67_l6 H locs ls hK67_p0 hK67_p1 hK67_p2 hm
      exact absurd hm (Nat.not_lt_zero _)
    | succ n ih =>
      intro J67_l4 J67_l7 J67_l6 H locs ls hK67_p0 hK67_p1 hK67_p2 hm67 hP hD hS hl
      have ih67 := ih
      refine lv_lload hx hb dX10_letter_67 (lv_at hl 6 rfl) ?_
      refine lv_lconst (v := 0) hx hb dX10_letter_69 (by decide) ?_
      refine W.lcmp hx hb dX10_letter_70 ?_
      refine lv_topi (fun z12 ez12 => ?_)
      have h13 : ib z12 (-1) 1 := by rw [ez12]; exact ib_cmp _ _
      refine lv_if_le (tgt := 88) hx hb dX10_letter_71 (by decide) (fun c14 => ?_) (fun c14 => ?_)
      · have h15 := ib_le h13 (ib_c 0 0 0 (by decide)) c14
        have h16 : ib z12 (-1) 0 := ib_w (-1) 0 h15.1 (by decide)
        refine lv_iload_n hx hb dX10_letter_88 rfl (lv_at hl 3 rfl) ?_
        refine lv_iload hx hb dX10_letter_89 (lv_at hl 5 rfl) ?_
        refine lv_icmp_lt (tgt := 96) hx hb dX10_letter_91 (by decide) (fun c17 => ?_) (fun c17 => ?_)
        · have h18 := ib_lt hK67_p2 (ib_any J67_l6) c17
          have h19 : ib J67_l6 1 2147483647 := ib_w 1 2147483647 h18.2 (by decide)
          refine lv_iload hx hb dX10_letter_96 (lv_at hl 5 rfl) ?_
          refine lv_iconst (v := 1) hx hb dX10_letter_98 (by decide) ?_
          refine lv_isub hx hb dX10_letter_99 ?_
          refine lv_topi (fun z20 ez20 => ?_)
          have h21 := ib_sub h19 (ib_c 1 1 1 (by decide)) (by decide)
          rw [← ez20] at h21
          have h22 : ib z20 0 2147483646 := ib_w 0 2147483646 h21.1 (by decide)
          refine lv_istore (lv' := [(7, .int z20), (0, .ref a_this), (1, .int p0), (2, .int p1), (3, .int p2), (4, .long J67_l4), (6, .int J67_l6)]) hx hb dX10_letter_100 hl (by decide) rfl (fun ls hl => ?_)
          exact jn102 2147483648 J67_l4 J67_l6 z20 H locs ls (ib_w 0 1 hK67_p0 (by decide)) (ib_w 0 11 hK67_p1 (by decide)) (ib_w 0 5 hK67_p2 (by decide)) (ib_w 1 2147483647 h19 (by decide)) (ib_w 0 2147483646 h22 (by decide)) (by have := h22; unfold ib at this; omega) hP hD hS (lv_sub hl [1, 2, 3, 4, 5, 6, 0] rfl)
        · have h23 := ib_nlt hK67_p2 (ib_any J67_l6) c17
          have h24 : ib J67_l6 (-2147483648) 5 := ib_w (-2147483648) 5 h23.2 (by decide)
          refine lv_iconst (v := 0) hx hb dX10_letter_94 (by decide) ?_
          subst hQ; exact k_iret hx hb hr hlk rfl () hS True.intro hP hD (Nat.le_of_ble_eq_true rfl) (Nat.le_of_ble_eq_true rfl) dX10_letter_95
      · have h25 := ib_nle h13 (ib_c 0 0 0 (by decide)) c14
        have h26 : ib z12 1 1 := ib_w 1 1 h25.1 (by decide)
        obtain ⟨z27, ez27⟩ : ∃ y : Int32, y = J67_l6 + 1 := ⟨_, rfl⟩
        refine lv_iinc (v := z27) (lv' := [(6, .int z27), (0, .ref a_this), (1, .int p0), (2, .int p1), (3, .int p2), (4, .long J67_l4), (7, .long J67_l7)]) hx hb dX10_letter_74 hl (k := 5) rfl (by rw [ez27]; rfl) (by decide) rfl (fun ls hl => ?_)
        refine lv_lload hx hb dX10_letter_77 (lv_at hl 6 rfl) ?_
        refine lv_ldc2 hx hb C0.2.2.2.1 (C0.2.2.2.2.1 _ wd626) dX10_letter_79 ?_
        refine lv_ldiv hx hb dX10_letter_82 (by decide) ?_
        refine lv_topl (fun z28 ez28 => ?_)
        refine lv_lstore (lv' := [(7, .long z28), (6, .int z27), (0, .ref a_this), (1, .int p0), (2, .int p1), (3, .int p2), (4, .long J67_l4)]) hx hb dX10_letter_83 hl (by decide) rfl (fun ls hl => ?_)
        refine lv_goto (tgt := 67) hx hb dX10_letter_85 (by decide) ?_
        exact ih67 J67_l4 z28 z27 H locs ls (ib_w 0 1 hK67_p0 (by decide)) (ib_w 0 11 hK67_p1 (by decide)) (ib_w 0 5 hK67_p2 (by decide)) (ldv_lt ez28 (by rw [← ez12]; exact c14) hm67) hP hD hS (lv_sub hl [2, 3, 4, 5, 6, 1, 0] rfl)
  have jn42 : ∀  (H : Heap) (locs : List Loc) (ls : Array Slot), va_P (dC, dI) vwCl [(a_this, .inr (10, mfs rm x_taped x_at x_end x_ended x_bad x_badPlace x_fault x_faultPlace x_namePlace x_awayTold x_away x_coded x_statements x_isCrossing x_textKind x_askSecond x_redMany x_isOpen x_lastGreen x_greenTo x_isCycleGreen x_stillGreen x_rowMany x_fitMany x_fitRules x_fitGreen x_undoable x_newest x_seeded x_qCoded x_qWaits x_qOpened x_qBase x_qPiled x_qAnswer x_qIsNew x_octets)), ((rm 41), .inl (cy 0, 4, .inl g_many)), ((rm 42), .inl (cy 1, 48, .inr (.inl g_names)))] H → va_D A [(a_this, .inr (10, mfs rm x_taped x_at x_end x_ended x_bad x_badPlace x_fault x_faultPlace x_namePlace x_awayTold x_away x_coded x_statements x_isCrossing x_textKind x_askSecond x_redMany x_isOpen x_lastGreen x_greenTo x_isCycleGreen x_stillGreen x_rowMany x_fitMany x_fitRules x_fitGreen x_undoable x_newest x_seeded x_qCoded x_qWaits x_qOpened x_qBase x_qPiled x_qAnswer x_qIsNew x_octets)), ((rm 41), .inl (cy 0, 4, .inl g_many)), ((rm 42), .inl (cy 1, 48, .inr (.inl g_names)))] → va_S A s.heap H locs → lv_has ls 9 [(0, .ref a_this), (1, .int p0), (2, .int p1), (3, .int p2)] → W p l e { frames := 1, cells := 0, slots := 0, locals := 25 } s m args below meth c H locs 0 0 Q (F0 m 42 ls []) := by
    intro H locs ls hP hD hS hl
    refine lv_iconst (v := (-1)) hx hb dX10_letter_42 (by decide) ?_
    subst hQ; exact k_iret hx hb hr hlk rfl () hS True.intro hP hD (Nat.le_of_ble_eq_true rfl) (Nat.le_of_ble_eq_true rfl) dX10_letter_43
  refine lv_iload_n hx hb dX10_letter_0 rfl (lv_at hl 1 rfl) ?_
  refine lv_i2l (v := p0.toInt64) hx hb dX10_letter_1 rfl ?_
  refine lv_lconst (v := 0) hx hb dX10_letter_2 (by decide) ?_
  refine lv_lconst (v := 1) hx hb dX10_letter_3 (by decide) ?_
  refine k_ji hP hD hS hA [] [0, 1, 2] (wr := [(a_this, .inr (10, mfs rm x_taped x_at x_end x_ended x_bad x_badPlace x_fault x_faultPlace x_namePlace x_awayTold x_away x_coded x_statements x_isCrossing x_textKind x_askSecond x_redMany x_isOpen x_lastGreen x_greenTo x_isCycleGreen x_stillGreen x_rowMany x_fitMany x_fitRules x_fitGreen x_undoable x_newest x_seeded x_qCoded x_qWaits x_qOpened x_qBase x_qPiled x_qAnswer x_qIsNew x_octets)), ((rm 41), .inl (cy 0, 4, .inl g_many)), ((rm 42), .inl (cy 1, 48, .inr (.inl g_names)))]) rfl rfl (by decide) (by decide) (by decide) 0 0 (Nat.le_of_ble_eq_true rfl) (Nat.le_of_ble_eq_true rfl) (fun hPc hDc => k_runS (As := [.long p0.toInt64, .long 0, .long 1]) (rest := []) C0 hZ hS hA (c_isIn l dC dI cy sq p0.toInt64 0 1) mS_X10_318 hPc hDc hl rfl rfl (Nat.le_of_ble_eq_true rfl) ⟨(Nat.le_of_ble_eq_true rfl), (Nat.le_of_ble_eq_true rfl)⟩ ⟨(Nat.le_of_ble_eq_true rfl), (Nat.le_of_ble_eq_true rfl)⟩ dX10_letter_4) (fun r29 u30 H locs hw hP hD hS => ?_)
  have hP : va_P (dC, dI) vwCl [(a_this, .inr (10, mfs rm x_taped x_at x_end x_ended x_bad x_badPlace x_fault x_faultPlace x_namePlace x_awayTold x_away x_coded x_statements x_isCrossing x_textKind x_askSecond x_redMany x_isOpen x_lastGreen x_greenTo x_isCycleGreen x_stillGreen x_rowMany x_fitMany x_fitRules x_fitGreen x_undoable x_newest x_seeded x_qCoded x_qWaits x_qOpened x_qBase x_qPiled x_qAnswer x_qIsNew x_octets)), ((rm 41), .inl (cy 0, 4, .inl g_many)), ((rm 42), .inl (cy 1, 48, .inr (.inl g_names)))] H := hP
  have hD : va_D A [(a_this, .inr (10, mfs rm x_taped x_at x_end x_ended x_bad x_badPlace x_fault x_faultPlace x_namePlace x_awayTold x_away x_coded x_statements x_isCrossing x_textKind x_askSecond x_redMany x_isOpen x_lastGreen x_greenTo x_isCycleGreen x_stillGreen x_rowMany x_fitMany x_fitRules x_fitGreen x_undoable x_newest x_seeded x_qCoded x_qWaits x_qOpened x_qBase x_qPiled x_qAnswer x_qIsNew x_octets)), ((rm 41), .inl (cy 0, 4, .inl g_many)), ((rm 42), .inl (cy 1, 48, .inr (.inl g_names)))] := hD
  have h31 := hw
  have h32 : ib r29 0 1 := by rw [h31]; exact k_isf_01 _ _ _
  refine lv_if_eq (tgt := 42) hx hb dX10_letter_7 (by decide) (fun c33 => ?_) (fun c33 => ?_)
  · have h34 := ib_eq h32 (ib_c 0 0 0 (by decide)) c33
    have h35 : ib r29 0 0 := ib_w 0 0 h34.1 (by decide)
    exact jn42  H locs ls  hP hD hS (lv_sub hl [0, 1, 2, 3] rfl)
  · have h36 : ib r29 1 1 := ib_w 1 1 (ib_ne_lo 0 h32 (by decide) c33) (by decide)
    have h37 : ib p0 0 1 := ib_w 0 1 (ib_two (ib_any p0) (k_isf_v h31 (show 0 ≤ (0 : Int64).toInt by decide) (show (1 : Int64).toInt ≤ 1 by decide) (ib_nz h36 (by decide)))) (by decide)
    refine lv_iload_n hx hb dX10_letter_10 rfl (lv_at hl 2 rfl) ?_
    refine lv_i2l (v := p1.toInt64) hx hb dX10_letter_11 rfl ?_
    refine lv_lconst (v := 0) hx hb dX10_letter_12 (by decide) ?_
    refine lv_aload_n hx hb dX10_letter_13 rfl (lv_at hl 0 rfl) ?_
    refine k_get C0 fg_X10_111 hP 0 rfl rfl dX10_letter_14 ?_
    refine lv_iconst (v := 2) hx hb dX10_letter_17 (by decide) ?_
    refine lv_iload_n hx hb dX10_letter_18 rfl (lv_at hl 1 rfl) ?_
    refine lv_iadd hx hb dX10_letter_19 ?_
    refine lv_topi (fun z38 ez38 => ?_)
    have h39 := ib_add (ib_c 2 2 2 (by decide)) h37 (by decide)
    rw [← ez38] at h39
    have h40 : ib z38 2 3 := ib_w 2 3 h39.1 (by decide)
    refine va_iald hx hb C0.2.2.2.2.2.1 hP 1 0 rfl rfl (ib_in 4 h40 (by decide)) dX10_letter_20 ?_
    refine lv_topi (fun z41 ez41 => ?_)
    have h42 : ib z41 0 12 := by rw [ez41]; exact ia_at hg_many (ib_in 4 h40 (by decide))
    refine lv_iconst (v := 1) hx hb dX10_letter_21 (by decide) ?_
    refine lv_isub hx hb dX10_letter_22 ?_
    refine lv_topi (fun z43 ez43 => ?_)
    have h44 := ib_sub h42 (ib_c 1 1 1 (by decide)) (by decide)
    rw [← ez43] at h44
    have h45 : ib z43 (-1) 11 := ib_w (-1) 11 h44.1 (by decide)
    refine lv_i2l (v := z43.toInt64) hx hb dX10_letter_23 rfl ?_
    refine k_ji hP hD hS hA [] [0, 1, 2] (wr := [(a_this, .inr (10, mfs rm x_taped x_at x_end x_ended x_bad x_badPlace x_fault x_faultPlace x_namePlace x_awayTold x_away x_coded x_statements x_isCrossing x_textKind x_askSecond x_redMany x_isOpen x_lastGreen x_greenTo x_isCycleGreen x_stillGreen x_rowMany x_fitMany x_fitRules x_fitGreen x_undoable x_newest x_seeded x_qCoded x_qWaits x_qOpened x_qBase x_qPiled x_qAnswer x_qIsNew x_octets)), ((rm 41), .inl (cy 0, 4, .inl g_many)), ((rm 42), .inl (cy 1, 48, .inr (.inl g_names)))]) rfl rfl (by decide) (by decide) (by decide) 0 0 (Nat.le_of_ble_eq_true rfl) (Nat.le_of_ble_eq_true rfl) (fun hPc hDc => k_runS (As := [.long p1.toInt64, .long 0, .long z43.toInt64]) (rest := []) C0 hZ hS hA (c_isIn l dC dI cy sq p1.toInt64 0 z43.toInt64) mS_X10_318 hPc hDc hl rfl rfl (Nat.le_of_ble_eq_true rfl) ⟨(Nat.le_of_ble_eq_true rfl), (Nat.le_of_ble_eq_true rfl)⟩ ⟨(Nat.le_of_ble_eq_true rfl), (Nat.le_of_ble_eq_true rfl)⟩ dX10_letter_24) (fun r46 u47 H locs hw hP hD hS => ?_)
    have hP : va_P (dC, dI) vwCl [(a_this, .inr (10, mfs rm x_taped x_at x_end x_ended x_bad x_badPlace x_fault x_faultPlace x_namePlace x_awayTold x_away x_coded x_statements x_isCrossing x_textKind x_askSecond x_redMany x_isOpen x_lastGreen x_greenTo x_isCycleGreen x_stillGreen x_rowMany x_fitMany x_fitRules x_fitGreen x_undoable x_newest x_seeded x_qCoded x_qWaits x_qOpened x_qBase x_qPiled x_qAnswer x_qIsNew x_octets)), ((rm 41), .inl (cy 0, 4, .inl g_many)), ((rm 42), .inl (cy 1, 48, .inr (.inl g_names)))] H := hP
    have hD : va_D A [(a_this, .inr (10, mfs rm x_taped x_at x_end x_ended x_bad x_badPlace x_fault x_faultPlace x_namePlace x_awayTold x_away x_coded x_statements x_isCrossing x_textKind x_askSecond x_redMany x_isOpen x_lastGreen x_greenTo x_isCycleGreen x_stillGreen x_rowMany x_fitMany x_fitRules x_fitGreen x_undoable x_newest x_seeded x_qCoded x_qWaits x_qOpened x_qBase x_qPiled x_qAnswer x_qIsNew x_octets)), ((rm 41), .inl (cy 0, 4, .inl g_many)), ((rm 42), .inl (cy 1, 48, .inr (.inl g_names)))] := hD
    have h48 := hw
    have h49 : ib r46 0 1 := by rw [h48]; exact k_isf_01 _ _ _
    refine lv_if_eq (tgt := 42) hx hb dX10_letter_27 (by decide) (fun c50 => ?_) (fun c50 => ?_)
    · have h51 := ib_eq h49 (ib_c 0 0 0 (by decide)) c50
      have h52 : ib r46 0 0 := ib_w 0 0 h51.1 (by decide)
      exact jn42  H locs ls  hP hD hS (lv_sub hl [0, 1, 2, 3] rfl)
    · have h53 : ib r46 1 1 := ib_w 1 1 (ib_ne_lo 0 h49 (by decide) c50) (by decide)
      have h54 : ib p1 0 11 := ib_w 0 11 (ib_two (ib_any p1) (k_isf_v h48 (show 0 ≤ (0 : Int64).toInt by decide) (by rw [Int32.toInt_toInt64]; exact (h45).2) (ib_nz h53 (by decide)))) (by decide)
      have h55 : ib z43 0 11 := ib_w 0 11 (ib_two h45 (k_isf_u h48 (show 0 ≤ (0 : Int64).toInt by decide) h45 (ib_nz h53 (by decide)))) (by decide)
      have h56 : ib z41 1 12 := ⟨by have := h44.2; have := (h55).1; have := (h55).2; have := (h42).1; have := (h42).2; have := ((ib_c 1 1 1 (by decide))).1; have := ((ib_c 1 1 1 (by decide))).2; omega, by have := h44.2; have := (h55).1; have := (h55).2; have := (h42).1; have := (h42).2; have := ((ib_c 1 1 1 (by decide))).1; have := ((ib_c 1 1 1 (by decide))).2; omega⟩
      refine lv_iload_n hx hb dX10_letter_30 rfl (lv_at hl 3 rfl) ?_
      refine lv_i2l (v := p2.toInt64) hx hb dX10_letter_31 rfl ?_
      refine lv_lconst (v := 0) hx hb dX10_letter_32 (by decide) ?_
      refine lv_ldc2 hx hb C0.2.2.2.1 (C0.2.2.2.2.1 _ wd789) dX10_letter_33 ?_
      refine k_ji hP hD hS hA [] [0, 1, 2] (wr := [(a_this, .inr (10, mfs rm x_taped x_at x_end x_ended x_bad x_badPlace x_fault x_faultPlace x_namePlace x_awayTold x_away x_coded x_statements x_isCrossing x_textKind x_askSecond x_redMany x_isOpen x_lastGreen x_greenTo x_isCycleGreen x_stillGreen x_rowMany x_fitMany x_fitRules x_fitGreen x_undoable x_newest x_seeded x_qCoded x_qWaits x_qOpened x_qBase x_qPiled x_qAnswer x_qIsNew x_octets)), ((rm 41), .inl (cy 0, 4, .inl g_many)), ((rm 42), .inl (cy 1, 48, .inr (.inl g_names)))]) rfl rfl (by decide) (by decide) (by decide) 0 0 (Nat.le_of_ble_eq_true rfl) (Nat.le_of_ble_eq_true rfl) (fun hPc hDc => k_runS (As := [.long p2.toInt64, .long 0, .long 5]) (rest := []) C0 hZ hS hA (c_isIn l dC dI cy sq p2.toInt64 0 5) mS_X10_318 hPc hDc hl rfl rfl (Nat.le_of_ble_eq_true rfl) ⟨(Nat.le_of_ble_eq_true rfl), (Nat.le_of_ble_eq_true rfl)⟩ ⟨(Nat.le_of_ble_eq_true rfl), (Nat.le_of_ble_eq_true rfl)⟩ dX10_letter_36) (fun r57 u58 H locs hw hP hD hS => ?_)
      have hP : va_P (dC, dI) vwCl [(a_this, .inr (10, mfs rm x_taped x_at x_end x_ended x_bad x_badPlace x_fault x_faultPlace x_namePlace x_awayTold x_away x_coded x_statements x_isCrossing x_textKind x_askSecond x_redMany x_isOpen x_lastGreen x_greenTo x_isCycleGreen x_stillGreen x_rowMany x_fitMany x_fitRules x_fitGreen x_undoable x_newest x_seeded x_qCoded x_qWaits x_qOpened x_qBase x_qPiled x_qAnswer x_qIsNew x_octets)), ((rm 41), .inl (cy 0, 4, .inl g_many)), ((rm 42), .inl (cy 1, 48, .inr (.inl g_names)))] H := hP
      have hD : va_D A [(a_this, .inr (10, mfs rm x_taped x_at x_end x_ended x_bad x_badPlace x_fault x_faultPlace x_namePlace x_awayTold x_away x_coded x_statements x_isCrossing x_textKind x_askSecond x_redMany x_isOpen x_lastGreen x_greenTo x_isCycleGreen x_stillGreen x_rowMany x_fitMany x_fitRules x_fitGreen x_undoable x_newest x_seeded x_qCoded x_qWaits x_qOpened x_qBase x_qPiled x_qAnswer x_qIsNew x_octets)), ((rm 41), .inl (cy 0, 4, .inl g_many)), ((rm 42), .inl (cy 1, 48, .inr (.inl g_names)))] := hD
      have h59 := hw
      have h60 : ib r57 0 1 := by rw [h59]; exact k_isf_01 _ _ _
      refine lv_if_ne (tgt := 44) hx hb dX10_letter_39 (by decide) (fun c61 => ?_) (fun c61 => ?_)
      · have h62 : ib r57 1 1 := ib_w 1 1 (ib_ne_lo 0 h60 (by decide) c61) (by decide)
        have h63 : ib p2 0 5 := ib_w 0 5 (ib_two (ib_any p2) (k_isf_v h59 (show 0 ≤ (0 : Int64).toInt by decide) (show (5 : Int64).toInt ≤ 5 by decide) (ib_nz h62 (by decide)))) (by decide)
        refine lv_aload_n hx hb dX10_letter_44 rfl (lv_at hl 0 rfl) ?_
        refine k_get C0 fg_X10_114 hP 0 rfl rfl dX10_letter_45 ?_
        refine lv_bipush (v := 24) hx hb dX10_letter_48 (by decide) ?_
        refine lv_bipush (v := 12) hx hb dX10_letter_50 (by decide) ?_
        refine lv_iload_n hx hb dX10_letter_52 rfl (lv_at hl 1 rfl) ?_
        refine lv_imul hx hb dX10_letter_53 ?_
        refine lv_topi (fun z64 ez64 => ?_)
        have h65 := ib_mul (ib_c 12 12 12 (by decide)) h37 (by decide)
        rw [← ez64] at h65
        have h66 : ib z64 0 12 := ib_w 0 12 h65.1 (by decide)
        have h67 : z64.toInt = 12 * p0.toInt := by have q0 := h65.2; rw [show (12 : Int32).toInt = 12 from by decide] at q0; omega
        refine lv_iadd hx hb dX10_letter_54 ?_
        refine lv_topi (fun z68 ez68 => ?_)
        have h69 := ib_add (ib_c 24 24 24 (by decide)) h66 (by decide)
        rw [← ez68] at h69
        have h70 : ib z68 24 36 := ib_w 24 36 h69.1 (by decide)
        refine lv_iload_n hx hb dX10_letter_55 rfl (lv_at hl 2 rfl) ?_
        refine lv_iadd hx hb dX10_letter_56 ?_
        refine lv_topi (fun z71 ez71 => ?_)
        have h72 := ib_add h70 h54 (by decide)
        rw [← ez71] at h72
        have h73 : ib z71 24 47 := ib_w 24 47 h72.1 (by decide)
        refine va_lald hx hb C0.2.2.2.2.2.1 hP 2 1 rfl rfl (ib_in 48 h73 (by decide)) dX10_letter_57 ?_
        refine lv_topl (fun z74 ez74 => ?_)
        refine lv_lstore (lv' := [(4, .long z74), (0, .ref a_this), (1, .int p0), (2, .int p1), (3, .int p2)]) hx hb dX10_letter_58 hl (by decide) rfl (fun ls hl => ?_)
        refine lv_iconst (v := 0) hx hb dX10_letter_60 (by decide) ?_
        refine lv_istore (lv' := [(6, .int 0), (4, .long z74), (0, .ref a_this), (1, .int p0), (2, .int p1), (3, .int p2)]) hx hb dX10_letter_61 hl (by decide) rfl (fun ls hl => ?_)
        refine lv_lload hx hb dX10_letter_63 (lv_at hl 1 rfl) ?_
        refine lv_lstore (lv' := [(7, .long z74), (6, .int 0), (4, .long z74), (0, .ref a_this), (1, .int p0), (2, .int p1), (3, .int p2)]) hx hb dX10_letter_65 hl (by decide) rfl (fun ls hl => ?_)
        exact jn67 (z74.toInt.toNat + 1) z74 z74 0 H locs ls (ib_w 0 1 h37 (by decide)) (ib_w 0 11 h54 (by decide)) (ib_w 0 5 h63 (by decide)) (Nat.lt_succ_self _) hP hD hS (lv_sub hl [3, 4, 5, 6, 2, 1, 0] rfl)
      · have h75 := ib_eq h60 (ib_c 0 0 0 (by decide)) c61
        have h76 : ib r57 0 0 := ib_w 0 0 h75.1 (by decide)
        exact jn42  H locs ls  hP hD hS (lv_sub hl [0, 1, 2, 3] rfl)
set_option maxHeartbeats 4000000 in
set_option maxRecDepth 100000 in
theorem s_X10_light (l : Launch) (dC : Nat → ClassId) (dI : Nat → Nat → Nat) (cy : Nat → ClassId) (sq : Nat → Nat) (a_this : Nat) (rm : Nat → Nat) (x_taped : Int32) (x_at : Int32) (x_end : Int32) (x_ended : Int32) (x_bad : Int32) (x_badPlace : Int32) (x_fault : Int32) (x_faultPlace : Int32) (x_namePlace : Int32) (x_awayTold : Int32) (x_away : Int32) (x_coded : Int32) (x_statements : Int32) (x_isCrossing : Int32) (x_textKind : Int32) (x_askSecond : Int32) (x_redMany : Int32) (x_isOpen : Int32) (x_lastGreen : Int32) (x_greenTo : Int32) (x_isCycleGreen : Int32) (x_stillGreen : Int32) (x_rowMany : Int32) (x_fitMany : Int32) (x_fitRules : Int32) (x_fitGreen : Int32) (x_undoable : Int32) (x_newest : Int32) (x_seeded : Int64) (x_qCoded : Int32) (x_qWaits : Int32) (x_qOpened : Int32) (x_qBase : Int32) (x_qPiled : Int32) (x_qAnswer : Int64) (x_qIsNew : Int32) (x_octets : Int32) (g_many : Nat → Int32) (g_bar : Nat → Int32) (g_kinds : Nat → Int32) (g_walkers : Nat → Int32) (g_codeFrom : Nat → Int32) (g_codeEnd : Nat → Int32) (g_codes : Nat → Int32) (g_now : Nat → Int32) (g_isCar : Nat → Int32) (g_gaps : Nat → Int32) (g_isGreen : Nat → Int32) (g_isHere : Nat → Int32) (g_crosses : Nat → Int32) (g_waits : Nat → Int32) (g_goes : Nat → Int32) (g_harms : Nat → Int32) (g_presses : Nat → Int32) (g_crossedIn : Nat → Int32) (g_qPile : Nat → Int64) (p0 : Int32) (hx_isCrossing : ib x_isCrossing 0 1) (hx_isOpen : ib x_isOpen 0 1) (hx_isCycleGreen : ib x_isCycleGreen 0 1) (hx_qPiled : ib x_qPiled 0 1700) (hg_many_3 : ib (g_many 3) 0 12) (hg_bar_4 : ib (g_bar 4) 0 120) (hpg_walkers : ip g_walkers 48 2 0 0 5) (hg_codeFrom_3 : ib (g_codeFrom 3) (-1) 1600) (hg_codeFrom_4 : ib (g_codeFrom 4) (-1) 1600) (hg_codeEnd_3 : ib (g_codeEnd 3) 0 1600) (hg_codeEnd_4 : ib (g_codeEnd 4) 0 1600) (hg_gaps : ia g_gaps 300 0 20) (hG0 : ¬ g_codeFrom 3 = (-1) → okc g_codes 1600 false (g_codeFrom 3) (g_codeEnd 3)) (hG1 : ¬ g_codeFrom 4 = (-1) → okc g_codes 1600 true (g_codeFrom 4) (g_codeEnd 4)) (hc_cr : ¬ x_isCrossing = 0 → ib (g_bar 4) 10 120) : k_Met l yX10_light cX10_light 2 (some .int) { frames := 7, cells := 0, slots := 0, locals := 157 } dC dI cy sq [.ref a_this, .int p0] [(a_this, .inr (10, mfs rm x_taped x_at x_end x_ended x_bad x_badPlace x_fault x_faultPlace x_namePlace x_awayTold x_away x_coded x_statements x_isCrossing x_textKind x_askSecond x_redMany x_isOpen x_lastGreen x_greenTo x_isCycleGreen x_stillGreen x_rowMany x_fitMany x_fitRules x_fitGreen x_undoable x_newest x_seeded x_qCoded x_qWaits x_qOpened x_qBase x_qPiled x_qAnswer x_qIsNew x_octets)), ((rm 49), .inl (cy 0, 6, .inl g_codeFrom)), ((rm 50), .inl (cy 0, 6, .inl g_codeEnd)), ((rm 116), .inl (cy 1, 1700, .inr (.inl g_qPile))), ((rm 51), .inl (cy 0, 3200, .inl g_codes)), ((rm 46), .inl (cy 0, 48, .inl g_walkers)), ((rm 56), .inl (cy 0, 9, .inl g_now)), ((rm 43), .inl (cy 0, 8, .inl g_bar)), ((rm 65), .inl (cy 0, 12, .inl g_waits)), ((rm 44), .inl (cy 0, 24, .inl g_kinds)), ((rm 61), .inl (cy 0, 300, .inl g_gaps)), ((rm 66), .inl (cy 3, 12, .inl g_goes)), ((rm 67), .inl (cy 3, 12, .inl g_harms)), ((rm 60), .inl (cy 3, 320, .inl g_isCar)), ((rm 63), .inl (cy 3, 12, .inl g_isHere)), ((rm 64), .inl (cy 0, 12, .inl g_crosses)), ((rm 68), .inl (cy 3, 12, .inl g_presses)), ((rm 69), .inl (cy 3, 300, .inl g_crossedIn)), ((rm 41), .inl (cy 0, 4, .inl g_many)), ((rm 62), .inl (cy 3, 300, .inl g_isGreen))] (k_Qi dC dI (fun (r : Int32) (u : Int32 × Int32 × Int32 × Int32 × Int32 × Int32 × Int32 × Int32 × Int32 × (Nat → Int64) × (Nat → Int32) × (Nat → Int32) × (Nat → Int32) × (Nat → Int32) × (Nat → Int32) × (Nat → Int32) × (Nat → Int32) × (Nat → Int32) × (Nat → Int32) × (Nat → Int32)) => match u with | (n0, n1, n2, n3, n4, n5, n6, n7, n8, n9, n10, n11, n12, n13, n14, n15, n16, n17, n18, n19) => ib n3 0 1 ∧ ib n6 0 1 ∧ ib n8 0 1700 ∧ ia n11 300 0 20 ∧ ib r (-1) 1) (fun u : Int32 × Int32 × Int32 × Int32 × Int32 × Int32 × Int32 × Int32 × Int32 × (Nat → Int64) × (Nat → Int32) × (Nat → Int32) × (Nat → Int32) × (Nat → Int32) × (Nat → Int32) × (Nat → Int32) × (Nat → Int32) × (Nat → Int32) × (Nat → Int32) × (Nat → Int32) => match u with | (n0, n1, n2, n3, n4, n5, n6, n7, n8, n9, n10, n11, n12, n13, n14, n15, n16, n17, n18, n19) => [(a_this, .inr (10, mfs rm x_taped x_at x_end x_ended x_bad x_badPlace x_fault x_faultPlace x_namePlace x_awayTold x_away x_coded x_statements x_isCrossing n0 n1 n2 n3 n4 n5 n6 n7 x_rowMany x_fitMany x_fitRules x_fitGreen x_undoable x_newest x_seeded x_qCoded x_qWaits x_qOpened x_qBase n8 x_qAnswer x_qIsNew x_octets)), ((rm 49), .inl (cy 0, 6, .inl g_codeFrom)), ((rm 50), .inl (cy 0, 6, .inl g_codeEnd)), ((rm 116), .inl (cy 1, 1700, .inr (.inl n9))), ((rm 51), .inl (cy 0, 3200, .inl g_codes)), ((rm 46), .inl (cy 0, 48, .inl g_walkers)), ((rm 56), .inl (cy 0, 9, .inl g_now)), ((rm 43), .inl (cy 0, 8, .inl g_bar)), ((rm 65), .inl (cy 0, 12, .inl n10)), ((rm 44), .inl (cy 0, 24, .inl g_kinds)), ((rm 61), .inl (cy 0, 300, .inl n11)), ((rm 66), .inl (cy 3, 12, .inl n12)), ((rm 67), .inl (cy 3, 12, .inl n13)), ((rm 60), .inl (cy 3, 320, .inl n14)), ((rm 63), .inl (cy 3, 12, .inl n15)), ((rm 64), .inl (cy 0, 12, .inl n16)), ((rm 68), .inl (cy 3, 12, .inl n17)), ((rm 69), .inl (cy 3, 300, .inl n18)), ((rm 41), .inl (cy 0, 4, .inl g_many)), ((rm 62), .inl (cy 3, 300, .inl n19))])) := by
  refine k_ofW2 (by decide +kernel) (Nat.le_of_ble_eq_true rfl) ?_
  intro p e s m below meth c A ls H locs args Q hQ C0 hZ hr hlk hin hP hD hA hS hl
  have C0 : k_cx p s m args c cX10_light 2 RX10 dC dI cy sq := C0
  have hx := C0.1
  have hb := C0.2.1
  have hl : lv_has ls 2 [(0, .ref a_this), (1, .int p0)] := hl
  have jn19 : ∀  (H : Heap) (locs : List Loc) (ls : Array Slot), va_P (dC, dI) vwCl [(a_this, .inr (10, mfs rm x_taped x_at x_end x_ended x_bad x_badPlace x_fault x_faultPlace x_namePlace x_awayTold x_away x_coded x_statements x_isCrossing x_textKind x_askSecond x_redMany x_isOpen x_lastGreen x_greenTo x_isCycleGreen x_stillGreen x_rowMany x_fitMany x_fitRules x_fitGreen x_undoable x_newest x_seeded x_qCoded x_qWaits x_qOpened x_qBase x_qPiled x_qAnswer x_qIsNew x_octets)), ((rm 49), .inl (cy 0, 6, .inl g_codeFrom)), ((rm 50), .inl (cy 0, 6, .inl g_codeEnd)), ((rm 116), .inl (cy 1, 1700, .inr (.inl g_qPile))), ((rm 51), .inl (cy 0, 3200, .inl g_codes)), ((rm 46), .inl (cy 0, 48, .inl g_walkers)), ((rm 56), .inl (cy 0, 9, .inl g_now)), ((rm 43), .inl (cy 0, 8, .inl g_bar)), ((rm 65), .inl (cy 0, 12, .inl g_waits)), ((rm 44), .inl (cy 0, 24, .inl g_kinds)), ((rm 61), .inl (cy 0, 300, .inl g_gaps)), ((rm 66), .inl (cy 3, 12, .inl g_goes)), ((rm 67), .inl (cy 3, 12, .inl g_harms)), ((rm 60), .inl (cy 3, 320, .inl g_isCar)), ((rm 63), .inl (cy 3, 12, .inl g_isHere)), ((rm 64), .inl (cy 0, 12, .inl g_crosses)), ((rm 68), .inl (cy 3, 12, .inl g_presses)), ((rm 69), .inl (cy 3, 300, .inl g_crossedIn)), ((rm 41), .inl (cy 0, 4, .inl g_many)), ((rm 62), .inl (cy 3, 300, .inl g_isGreen))] H → va_D A [(a_this, .inr (10, mfs rm x_taped x_at x_end x_ended x_bad x_badPlace x_fault x_faultPlace x_namePlace x_awayTold x_away x_coded x_statements x_isCrossing x_textKind x_askSecond x_redMany x_isOpen x_lastGreen x_greenTo x_isCycleGreen x_stillGreen x_rowMany x_fitMany x_fitRules x_fitGreen x_undoable x_newest x_seeded x_qCoded x_qWaits x_qOpened x_qBase x_qPiled x_qAnswer x_qIsNew x_octets)), ((rm 49), .inl (cy 0, 6, .inl g_codeFrom)), ((rm 50), .inl (cy 0, 6, .inl g_codeEnd)), ((rm 116), .inl (cy 1, 1700, .inr (.inl g_qPile))), ((rm 51), .inl (cy 0, 3200, .inl g_codes)), ((rm 46), .inl (cy 0, 48, .inl g_walkers)), ((rm 56), .inl (cy 0, 9, .inl g_now)), ((rm 43), .inl (cy 0, 8, .inl g_bar)), ((rm 65), .inl (cy 0, 12, .inl g_waits)), ((rm 44), .inl (cy 0, 24, .inl g_kinds)), ((rm 61), .inl (cy 0, 300, .inl g_gaps)), ((rm 66), .inl (cy 3, 12, .inl g_goes)), ((rm 67), .inl (cy 3, 12, .inl g_harms)), ((rm 60), .inl (cy 3, 320, .inl g_isCar)), ((rm 63), .inl (cy 3, 12, .inl g_isHere)), ((rm 64), .inl (cy 0, 12, .inl g_crosses)), ((rm 68), .inl (cy 3, 12, .inl g_presses)), ((rm 69), .inl (cy 3, 300, .inl g_crossedIn)), ((rm 41), .inl (cy 0, 4, .inl g_many)), ((rm 62), .inl (cy 3, 300, .inl g_isGreen))] → va_S A s.heap H locs → lv_has ls 2 [(0, .ref a_this), (1, .int p0)] → W p l e { frames := 7, cells := 0, slots := 0, locals := 157 } s m args below meth c H locs 0 0 Q (F0 m 19 ls []) := by
    intro H locs ls hP hD hS hl
    refine lv_iconst (v := (-1)) hx hb dX10_light_19 (by decide) ?_
    subst hQ; exact k_iret hx hb hr hlk rfl ((x_textKind, x_askSecond, x_redMany, x_isOpen, x_lastGreen, x_greenTo, x_isCycleGreen, x_stillGreen, x_qPiled, g_qPile, g_waits, g_gaps, g_goes, g_harms, g_isCar, g_isHere, g_crosses, g_presses, g_crossedIn, g_isGreen)) hS ⟨ib_w 0 1 hx_isOpen (by decide), ib_w 0 1 hx_isCycleGreen (by decide), ib_w 0 1700 hx_qPiled (by decide), hg_gaps, ib_w (-1) 1 (ib_c (-1) (-1) (-1) (by decide)) (by decide)⟩ hP hD (Nat.le_of_ble_eq_true rfl) (Nat.le_of_ble_eq_true rfl) dX10_light_20
  refine lv_aload_n hx hb dX10_light_0 rfl (lv_at hl 0 rfl) ?_
  refine k_get C0 fg_X10_417 hP 0 rfl rfl dX10_light_1 ?_
  refine lv_if_eq (tgt := 19) hx hb dX10_light_4 (by decide) (fun c1 => ?_) (fun c1 => ?_)
  · have h2 := ib_eq hx_isCrossing (ib_c 0 0 0 (by decide)) c1
    have h3 : ib x_isCrossing 0 0 := ib_w 0 0 h2.1 (by decide)
    exact jn19  H locs ls  hP hD hS (lv_sub hl [0, 1] rfl)
  · have h4 : ib x_isCrossing 1 1 := ib_w 1 1 (ib_ne_lo 0 hx_isCrossing (by decide) c1) (by decide)
    have h5 : ib (g_bar 4) 10 120 := ib_w 10 120 (ib_two hg_bar_4 (hc_cr (ib_nz h4 (by decide)))) (by decide)
    refine lv_iload_n hx hb dX10_light_7 rfl (lv_at hl 1 rfl) ?_
    refine lv_i2l (v := p0.toInt64) hx hb dX10_light_8 rfl ?_
    refine lv_lconst (v := 0) hx hb dX10_light_9 (by decide) ?_
    refine lv_ldc2 hx hb C0.2.2.2.1 (C0.2.2.2.2.1 _ wd1003) dX10_light_10 ?_
    refine k_ji hP hD hS hA [] [0, 1, 2, 3, 4, 5, 6, 7, 8, 9, 10, 11, 12, 13, 14, 15, 16, 17, 18, 19] (wr := [(a_this, .inr (10, mfs rm x_taped x_at x_end x_ended x_bad x_badPlace x_fault x_faultPlace x_namePlace x_awayTold x_away x_coded x_statements x_isCrossing x_textKind x_askSecond x_redMany x_isOpen x_lastGreen x_greenTo x_isCycleGreen x_stillGreen x_rowMany x_fitMany x_fitRules x_fitGreen x_undoable x_newest x_seeded x_qCoded x_qWaits x_qOpened x_qBase x_qPiled x_qAnswer x_qIsNew x_octets)), ((rm 49), .inl (cy 0, 6, .inl g_codeFrom)), ((rm 50), .inl (cy 0, 6, .inl g_codeEnd)), ((rm 116), .inl (cy 1, 1700, .inr (.inl g_qPile))), ((rm 51), .inl (cy 0, 3200, .inl g_codes)), ((rm 46), .inl (cy 0, 48, .inl g_walkers)), ((rm 56), .inl (cy 0, 9, .inl g_now)), ((rm 43), .inl (cy 0, 8, .inl g_bar)), ((rm 65), .inl (cy 0, 12, .inl g_waits)), ((rm 44), .inl (cy 0, 24, .inl g_kinds)), ((rm 61), .inl (cy 0, 300, .inl g_gaps)), ((rm 66), .inl (cy 3, 12, .inl g_goes)), ((rm 67), .inl (cy 3, 12, .inl g_harms)), ((rm 60), .inl (cy 3, 320, .inl g_isCar)), ((rm 63), .inl (cy 3, 12, .inl g_isHere)), ((rm 64), .inl (cy 0, 12, .inl g_crosses)), ((rm 68), .inl (cy 3, 12, .inl g_presses)), ((rm 69), .inl (cy 3, 300, .inl g_crossedIn)), ((rm 41), .inl (cy 0, 4, .inl g_many)), ((rm 62), .inl (cy 3, 300, .inl g_isGreen))]) rfl rfl (by decide) (by decide) (by decide) 0 0 (Nat.le_of_ble_eq_true rfl) (Nat.le_of_ble_eq_true rfl) (fun hPc hDc => k_runS (As := [.long p0.toInt64, .long 0, .long 299]) (rest := []) C0 hZ hS hA (c_isIn l dC dI cy sq p0.toInt64 0 299) mS_X10_318 hPc hDc hl rfl rfl (Nat.le_of_ble_eq_true rfl) ⟨(Nat.le_of_ble_eq_true rfl), (Nat.le_of_ble_eq_true rfl)⟩ ⟨(Nat.le_of_ble_eq_true rfl), (Nat.le_of_ble_eq_true rfl)⟩ dX10_light_13) (fun r6 u7 H locs hw hP hD hS => ?_)
    have hP : va_P (dC, dI) vwCl [(a_this, .inr (10, mfs rm x_taped x_at x_end x_ended x_bad x_badPlace x_fault x_faultPlace x_namePlace x_awayTold x_away x_coded x_statements x_isCrossing x_textKind x_askSecond x_redMany x_isOpen x_lastGreen x_greenTo x_isCycleGreen x_stillGreen x_rowMany x_fitMany x_fitRules x_fitGreen x_undoable x_newest x_seeded x_qCoded x_qWaits x_qOpened x_qBase x_qPiled x_qAnswer x_qIsNew x_octets)), ((rm 49), .inl (cy 0, 6, .inl g_codeFrom)), ((rm 50), .inl (cy 0, 6, .inl g_codeEnd)), ((rm 116), .inl (cy 1, 1700, .inr (.inl g_qPile))), ((rm 51), .inl (cy 0, 3200, .inl g_codes)), ((rm 46), .inl (cy 0, 48, .inl g_walkers)), ((rm 56), .inl (cy 0, 9, .inl g_now)), ((rm 43), .inl (cy 0, 8, .inl g_bar)), ((rm 65), .inl (cy 0, 12, .inl g_waits)), ((rm 44), .inl (cy 0, 24, .inl g_kinds)), ((rm 61), .inl (cy 0, 300, .inl g_gaps)), ((rm 66), .inl (cy 3, 12, .inl g_goes)), ((rm 67), .inl (cy 3, 12, .inl g_harms)), ((rm 60), .inl (cy 3, 320, .inl g_isCar)), ((rm 63), .inl (cy 3, 12, .inl g_isHere)), ((rm 64), .inl (cy 0, 12, .inl g_crosses)), ((rm 68), .inl (cy 3, 12, .inl g_presses)), ((rm 69), .inl (cy 3, 300, .inl g_crossedIn)), ((rm 41), .inl (cy 0, 4, .inl g_many)), ((rm 62), .inl (cy 3, 300, .inl g_isGreen))] H := hP
    have hD : va_D A [(a_this, .inr (10, mfs rm x_taped x_at x_end x_ended x_bad x_badPlace x_fault x_faultPlace x_namePlace x_awayTold x_away x_coded x_statements x_isCrossing x_textKind x_askSecond x_redMany x_isOpen x_lastGreen x_greenTo x_isCycleGreen x_stillGreen x_rowMany x_fitMany x_fitRules x_fitGreen x_undoable x_newest x_seeded x_qCoded x_qWaits x_qOpened x_qBase x_qPiled x_qAnswer x_qIsNew x_octets)), ((rm 49), .inl (cy 0, 6, .inl g_codeFrom)), ((rm 50), .inl (cy 0, 6, .inl g_codeEnd)), ((rm 116), .inl (cy 1, 1700, .inr (.inl g_qPile))), ((rm 51), .inl (cy 0, 3200, .inl g_codes)), ((rm 46), .inl (cy 0, 48, .inl g_walkers)), ((rm 56), .inl (cy 0, 9, .inl g_now)), ((rm 43), .inl (cy 0, 8, .inl g_bar)), ((rm 65), .inl (cy 0, 12, .inl g_waits)), ((rm 44), .inl (cy 0, 24, .inl g_kinds)), ((rm 61), .inl (cy 0, 300, .inl g_gaps)), ((rm 66), .inl (cy 3, 12, .inl g_goes)), ((rm 67), .inl (cy 3, 12, .inl g_harms)), ((rm 60), .inl (cy 3, 320, .inl g_isCar)), ((rm 63), .inl (cy 3, 12, .inl g_isHere)), ((rm 64), .inl (cy 0, 12, .inl g_crosses)), ((rm 68), .inl (cy 3, 12, .inl g_presses)), ((rm 69), .inl (cy 3, 300, .inl g_crossedIn)), ((rm 41), .inl (cy 0, 4, .inl g_many)), ((rm 62), .inl (cy 3, 300, .inl g_isGreen))] := hD
    have h8 := hw
    have h9 : ib r6 0 1 := by rw [h8]; exact k_isf_01 _ _ _
    refine lv_if_ne (tgt := 21) hx hb dX10_light_16 (by decide) (fun c10 => ?_) (fun c10 => ?_)
    · have h11 : ib r6 1 1 := ib_w 1 1 (ib_ne_lo 0 h9 (by decide) c10) (by decide)
      have h12 : ib p0 0 299 := ib_w 0 299 (ib_two (ib_any p0) (k_isf_v h8 (show 0 ≤ (0 : Int64).toInt by decide) (show (299 : Int64).toInt ≤ 299 by decide) (ib_nz h11 (by decide)))) (by decide)
      refine lv_aload_n hx hb dX10_light_21 rfl (lv_at hl 0 rfl) ?_
      refine k_jv hP hD hS hA [0, 1, 2, 3, 4, 5, 6, 7, 8, 9, 10, 11, 12, 13, 14, 15, 16, 17, 18, 19] [] (wr := []) rfl rfl (by decide) (by decide) (by decide) 0 0 (Nat.le_of_ble_eq_true rfl) (Nat.le_of_ble_eq_true rfl) (fun hPc hDc => k_runV (As := []) (rest := []) C0 hZ hS hA (s_X10_dayNow l dC dI cy sq a_this rm x_taped x_at x_end x_ended x_bad x_badPlace x_fault x_faultPlace x_namePlace x_awayTold x_away x_coded x_statements x_isCrossing x_textKind x_askSecond x_redMany x_isOpen x_lastGreen x_greenTo x_isCycleGreen x_stillGreen x_rowMany x_fitMany x_fitRules x_fitGreen x_undoable x_newest x_seeded x_qCoded x_qWaits x_qOpened x_qBase x_qPiled x_qAnswer x_qIsNew x_octets g_many g_bar g_kinds g_walkers g_codeFrom g_codeEnd g_codes g_now g_isCar g_gaps g_isGreen g_isHere g_crosses g_waits g_goes g_harms g_presses g_crossedIn g_qPile (ib_w 0 1700 hx_qPiled (by decide)) (ib_w 0 12 hg_many_3 (by decide)) (ib_w 10 120 h5 (by decide)) hpg_walkers (ib_w (-1) 1600 hg_codeFrom_3 (by decide)) (ib_w (-1) 1600 hg_codeFrom_4 (by decide)) (ib_w 0 1600 hg_codeEnd_3 (by decide)) (ib_w 0 1600 hg_codeEnd_4 (by decide)) hg_gaps hG0 hG1) mV_X10_534 hPc hDc rfl rfl rfl hl rfl rfl (Nat.le_of_ble_eq_true rfl) ⟨(Nat.le_of_ble_eq_true rfl), (Nat.le_of_ble_eq_true rfl)⟩ ⟨(Nat.le_of_ble_eq_true rfl), (Nat.le_of_ble_eq_true rfl)⟩ dX10_light_22) (fun u14 H locs hw hP hD hS => ?_)
      obtain ⟨v15, v16, v17, v18, v19, v20, v21, v22, v23, f24, f25, f26, f27, f28, f29, f30, f31, f32, f33, f34⟩ := u14
      try dsimp only at hP hD hw
      have hP : va_P (dC, dI) vwCl [(a_this, .inr (10, mfs rm x_taped x_at x_end x_ended x_bad x_badPlace x_fault x_faultPlace x_namePlace x_awayTold x_away x_coded x_statements x_isCrossing v15 v16 v17 v18 v19 v20 v21 v22 x_rowMany x_fitMany x_fitRules x_fitGreen x_undoable x_newest x_seeded x_qCoded x_qWaits x_qOpened x_qBase v23 x_qAnswer x_qIsNew x_octets)), ((rm 49), .inl (cy 0, 6, .inl g_codeFrom)), ((rm 50), .inl (cy 0, 6, .inl g_codeEnd)), ((rm 116), .inl (cy 1, 1700, .inr (.inl f24))), ((rm 51), .inl (cy 0, 3200, .inl g_codes)), ((rm 46), .inl (cy 0, 48, .inl g_walkers)), ((rm 56), .inl (cy 0, 9, .inl g_now)), ((rm 43), .inl (cy 0, 8, .inl g_bar)), ((rm 65), .inl (cy 0, 12, .inl f25)), ((rm 44), .inl (cy 0, 24, .inl g_kinds)), ((rm 61), .inl (cy 0, 300, .inl f26)), ((rm 66), .inl (cy 3, 12, .inl f27)), ((rm 67), .inl (cy 3, 12, .inl f28)), ((rm 60), .inl (cy 3, 320, .inl f29)), ((rm 63), .inl (cy 3, 12, .inl f30)), ((rm 64), .inl (cy 0, 12, .inl f31)), ((rm 68), .inl (cy 3, 12, .inl f32)), ((rm 69), .inl (cy 3, 300, .inl f33)), ((rm 41), .inl (cy 0, 4, .inl g_many)), ((rm 62), .inl (cy 3, 300, .inl f34))] H := hP
      have hD : va_D A [(a_this, .inr (10, mfs rm x_taped x_at x_end x_ended x_bad x_badPlace x_fault x_faultPlace x_namePlace x_awayTold x_away x_coded x_statements x_isCrossing v15 v16 v17 v18 v19 v20 v21 v22 x_rowMany x_fitMany x_fitRules x_fitGreen x_undoable x_newest x_seeded x_qCoded x_qWaits x_qOpened x_qBase v23 x_qAnswer x_qIsNew x_octets)), ((rm 49), .inl (cy 0, 6, .inl g_codeFrom)), ((rm 50), .inl (cy 0, 6, .inl g_codeEnd)), ((rm 116), .inl (cy 1, 1700, .inr (.inl f24))), ((rm 51), .inl (cy 0, 3200, .inl g_codes)), ((rm 46), .inl (cy 0, 48, .inl g_walkers)), ((rm 56), .inl (cy 0, 9, .inl g_now)), ((rm 43), .inl (cy 0, 8, .inl g_bar)), ((rm 65), .inl (cy 0, 12, .inl f25)), ((rm 44), .inl (cy 0, 24, .inl g_kinds)), ((rm 61), .inl (cy 0, 300, .inl f26)), ((rm 66), .inl (cy 3, 12, .inl f27)), ((rm 67), .inl (cy 3, 12, .inl f28)), ((rm 60), .inl (cy 3, 320, .inl f29)), ((rm 63), .inl (cy 3, 12, .inl f30)), ((rm 64), .inl (cy 0, 12, .inl f31)), ((rm 68), .inl (cy 3, 12, .inl f32)), ((rm 69), .inl (cy 3, 300, .inl f33)), ((rm 41), .inl (cy 0, 4, .inl g_many)), ((rm 62), .inl (cy 3, 300, .inl f34))] := hD
      obtain ⟨h35, h36, h37, h38⟩ := hw
      refine lv_aload_n hx hb dX10_light_25 rfl (lv_at hl 0 rfl) ?_
      refine k_get C0 fg_X10_152 hP 0 rfl rfl dX10_light_26 ?_
      refine lv_iload_n hx hb dX10_light_29 rfl (lv_at hl 1 rfl) ?_
      refine va_zald hx hb C0.2.2.2.2.2.1 hP 19 3 rfl rfl (ib_in 300 h12 (by decide)) dX10_light_30 ?_
      refine lv_topi (fun z39 ez39 => ?_)
      refine lv_if_eq (tgt := 38) hx hb dX10_light_31 (by decide) (fun c40 => ?_) (fun c40 => ?_)
      · have h41 := ib_eq (ib_any z39) (ib_c 0 0 0 (by decide)) c40
        have h42 : ib z39 0 0 := ib_w 0 0 h41.1 (by decide)
        refine lv_iconst (v := 0) hx hb dX10_light_38 (by decide) ?_
        subst hQ; exact k_iret hx hb hr hlk rfl ((v15, v16, v17, v18, v19, v20, v21, v22, v23, f24, f25, f26, f27, f28, f29, f30, f31, f32, f33, f34)) hS ⟨ib_w 0 1 h35 (by decide), ib_w 0 1 h36 (by decide), ib_w 0 1700 h37 (by decide), h38, ib_w (-1) 1 (ib_c 0 0 0 (by decide)) (by decide)⟩ hP hD (Nat.le_of_ble_eq_true rfl) (Nat.le_of_ble_eq_true rfl) dX10_light_39
      · skip
        refine lv_iconst (v := 1) hx hb dX10_light_34 (by decide) ?_
        refine lv_goto (tgt := 39) hx hb dX10_light_35 (by decide) ?_
        subst hQ; exact k_iret hx hb hr hlk rfl ((v15, v16, v17, v18, v19, v20, v21, v22, v23, f24, f25, f26, f27, f28, f29, f30, f31, f32, f33, f34)) hS ⟨ib_w 0 1 h35 (by decide), ib_w 0 1 h36 (by decide), ib_w 0 1700 h37 (by decide), h38, ib_w (-1) 1 (ib_c 1 1 1 (by decide)) (by decide)⟩ hP hD (Nat.le_of_ble_eq_true rfl) (Nat.le_of_ble_eq_true rfl) dX10_light_39
    · have h43 := ib_eq h9 (ib_c 0 0 0 (by decide)) c10
      have h44 : ib r6 0 0 := ib_w 0 0 h43.1 (by decide)
      exact jn19  H locs ls  hP hD hS (lv_sub hl [0, 1] rfl)
set_option maxHeartbeats 4000000 in
set_option maxRecDepth 100000 in
theorem s_X10_mostAlike (l : Launch) (dC : Nat → ClassId) (dI : Nat → Nat → Nat) (cy : Nat → ClassId) (sq : Nat → Nat) (a_this : Nat) (rm : Nat → Nat) (x_taped : Int32) (x_at : Int32) (x_end : Int32) (x_ended : Int32) (x_bad : Int32) (x_badPlace : Int32) (x_fault : Int32) (x_faultPlace : Int32) (x_namePlace : Int32) (x_awayTold : Int32) (x_away : Int32) (x_coded : Int32) (x_statements : Int32) (x_isCrossing : Int32) (x_textKind : Int32) (x_askSecond : Int32) (x_redMany : Int32) (x_isOpen : Int32) (x_lastGreen : Int32) (x_greenTo : Int32) (x_isCycleGreen : Int32) (x_stillGreen : Int32) (x_rowMany : Int32) (x_fitMany : Int32) (x_fitRules : Int32) (x_fitGreen : Int32) (x_undoable : Int32) (x_newest : Int32) (x_seeded : Int64) (x_qCoded : Int32) (x_qWaits : Int32) (x_qOpened : Int32) (x_qBase : Int32) (x_qPiled : Int32) (x_qAnswer : Int64) (x_qIsNew : Int32) (x_octets : Int32) (g_when : Nat → Int32) (p0 : Int32) (hx_fitMany : ib x_fitMany 0 60) (hp0 : ib p0 0 11) : k_Met l yX10_mostAlike cX10_mostAlike 6 (some .int) { frames := 0, cells := 0, slots := 0, locals := 0 } dC dI cy sq [.ref a_this, .int p0] [(a_this, .inr (10, mfs rm x_taped x_at x_end x_ended x_bad x_badPlace x_fault x_faultPlace x_namePlace x_awayTold x_away x_coded x_statements x_isCrossing x_textKind x_askSecond x_redMany x_isOpen x_lastGreen x_greenTo x_isCycleGreen x_stillGreen x_rowMany x_fitMany x_fitRules x_fitGreen x_undoable x_newest x_seeded x_qCoded x_qWaits x_qOpened x_qBase x_qPiled x_qAnswer x_qIsNew x_octets)), ((rm 77), .inl (cy 0, 720, .inl g_when))] (k_Qi dC dI (fun (r : Int32) (_ : Unit) => ib r 0 2147483647) (fun _ : Unit => [(a_this, .inr (10, mfs rm x_taped x_at x_end x_ended x_bad x_badPlace x_fault x_faultPlace x_namePlace x_awayTold x_away x_coded x_statements x_isCrossing x_textKind x_askSecond x_redMany x_isOpen x_lastGreen x_greenTo x_isCycleGreen x_stillGreen x_rowMany x_fitMany x_fitRules x_fitGreen x_undoable x_newest x_seeded x_qCoded x_qWaits x_qOpened x_qBase x_qPiled x_qAnswer x_qIsNew x_octets)), ((rm 77), .inl (cy 0, 720, .inl g_when))])) := by
  refine k_ofW2 (by decide +kernel) (Nat.le_of_ble_eq_true rfl) ?_
  intro p e s m below meth c A ls H locs args Q hQ C0 hZ hr hlk hin hP hD hA hS hl
  have C0 : k_cx p s m args c cX10_mostAlike 6 RX10 dC dI cy sq := C0
  have hx := C0.1
  have hb := C0.2.1
  have hl : lv_has ls 6 [(0, .ref a_this), (1, .int p0)] := hl
  have jn4 : ∀ (n : Nat) (J4_l2 : Int32) (J4_l3 : Int32) (H : Heap) (locs : List Loc) (ls : Array Slot), ib J4_l2 0 2147483647 → ib J4_l3 0 60 → 61 ≤ J4_l3.toInt + (n : Int) → va_P (dC, dI) vwCl [(a_this, .inr (10, mfs rm x_taped x_at x_end x_ended x_bad x_badPlace x_fault x_faultPlace x_namePlace x_awayTold x_away x_coded x_statements x_isCrossing x_textKind x_askSecond x_redMany x_isOpen x_lastGreen x_greenTo x_isCycleGreen x_stillGreen x_rowMany x_fitMany x_fitRules x_fitGreen x_undoable x_newest x_seeded x_qCoded x_qWaits x_qOpened x_qBase x_qPiled x_qAnswer x_qIsNew x_octets)), ((rm 77), .inl (cy 0, 720, .inl g_when))] H → va_D A [(a_this, .inr (10, mfs rm x_taped x_at x_end x_ended x_bad x_badPlace x_fault x_faultPlace x_namePlace x_awayTold x_away x_coded x_statements x_isCrossing x_textKind x_askSecond x_redMany x_isOpen x_lastGreen x_greenTo x_isCycleGreen x_stillGreen x_rowMany x_fitMany x_fitRules x_fitGreen x_undoable x_newest x_seeded x_qCoded x_qWaits x_qOpened x_qBase x_qPiled x_qAnswer x_qIsNew x_octets)), ((rm 77), .inl (cy 0, 720, .inl g_when))] → va_S A s.heap H locs → lv_has ls 6 [(0, .ref a_this), (1, .int p0), (2, .int J4_l2), (3, .int J4_l3)] → W p l e { frames := 0, cells := 0, slots := 0, locals := 0 } s m args below meth c H locs 0 0 Q (F0 m 4 ls []) := by
    intro n
    induction n with
    | zero =>
      intro J4_l2 J4_l3 H locs ls hJ4_l2 hJ4_l3 hm
      exact absurd hm (by have := hJ4_l3; unfold ib at this; omega)
    | succ n ih =>
      intro J4_l2 J4_l3 H locs ls hJ4_l2 hJ4_l3 hm4 hP hD hS hl
      have ih4 := ih
      have jn71 : ∀ (J71_l4 : Int32) (J71_l5 : Int32) (J71_l2 : Int32) (H : Heap) (locs : List Loc) (ls : Array Slot), ib J4_l3 0 59 → ib J71_l5 1 60 → ib x_fitMany 1 60 → ib J71_l2 0 2147483647 → va_P (dC, dI) vwCl [(a_this, .inr (10, mfs rm x_taped x_at x_end x_ended x_bad x_badPlace x_fault x_faultPlace x_namePlace x_awayTold x_away x_coded x_statements x_isCrossing x_textKind x_askSecond x_redMany x_isOpen x_lastGreen x_greenTo x_isCycleGreen x_stillGreen x_rowMany x_fitMany x_fitRules x_fitGreen x_undoable x_newest x_seeded x_qCoded x_qWaits x_qOpened x_qBase x_qPiled x_qAnswer x_qIsNew x_octets)), ((rm 77), .inl (cy 0, 720, .inl g_when))] H → va_D A [(a_this, .inr (10, mfs rm x_taped x_at x_end x_ended x_bad x_badPlace x_fault x_faultPlace x_namePlace x_awayTold x_away x_coded x_statements x_isCrossing x_textKind x_askSecond x_redMany x_isOpen x_lastGreen x_greenTo x_isCycleGreen x_stillGreen x_rowMany x_fitMany x_fitRules x_fitGreen x_undoable x_newest x_seeded x_qCoded x_qWaits x_qOpened x_qBase x_qPiled x_qAnswer x_qIsNew x_octets)), ((rm 77), .inl (cy 0, 720, .inl g_when))] → va_S A s.heap H locs → lv_has ls 6 [(0, .ref a_this), (1, .int p0), (2, .int J71_l2), (3, .int J4_l3), (4, .int J71_l4), (5, .int J71_l5)] → W p l e { frames := 0, cells := 0, slots := 0, locals := 0 } s m args below meth c H locs 0 0 Q (F0 m 71 ls []) := by
        intro J71_l4 J71_l5 J71_l2 H locs ls hK71_J4_l3 hJ71_l5 hK71_x_fitMany hJ71_l2 hP hD hS hl
        obtain ⟨z1, ez1⟩ : ∃ y : Int32, y = J4_l3 + 1 := ⟨_, rfl⟩
        refine lv_iinc (v := z1) (lv' := [(3, .int z1), (0, .ref a_this), (1, .int p0), (2, .int J71_l2), (4, .int J71_l4), (5, .int J71_l5)]) hx hb dX10_mostAlike_71 hl (k := 3) rfl (by rw [ez1]; rfl) (by decide) rfl (fun ls hl => ?_)
        have h2 := ib_add hK71_J4_l3 (ib_c 1 1 1 (by decide)) (by decide)
        rw [← ez1] at h2
        have h3 : ib z1 1 60 := ib_w 1 60 h2.1 (by decide)
        refine lv_goto (tgt := 4) hx hb dX10_mostAlike_74 (by decide) ?_
        exact ih4 J71_l2 z1 H locs ls (ib_w 0 2147483647 hJ71_l2 (by decide)) (ib_w 0 60 h3 (by decide)) (by have := h2.2; have : (1 : Int32).toInt = 1 := (by decide); omega) hP hD hS (lv_sub hl [1, 2, 3, 0] rfl)
      have jn18 : ∀ (n : Nat) (J18_l4 : Int32) (J18_l5 : Int32) (H : Heap) (locs : List Loc) (ls : Array Slot), ib J4_l2 0 2147483647 → ib J4_l3 0 59 → ib x_fitMany 1 60 → ib J18_l5 0 60 → 61 ≤ J18_l5.toInt + (n : Int) → va_P (dC, dI) vwCl [(a_this, .inr (10, mfs rm x_taped x_at x_end x_ended x_bad x_badPlace x_fault x_faultPlace x_namePlace x_awayTold x_away x_coded x_statements x_isCrossing x_textKind x_askSecond x_redMany x_isOpen x_lastGreen x_greenTo x_isCycleGreen x_stillGreen x_rowMany x_fitMany x_fitRules x_fitGreen x_undoable x_newest x_seeded x_qCoded x_qWaits x_qOpened x_qBase x_qPiled x_qAnswer x_qIsNew x_octets)), ((rm 77), .inl (cy 0, 720, .inl g_when))] H → va_D A [(a_this, .inr (10, mfs rm x_taped x_at x_end x_ended x_bad x_badPlace x_fault x_faultPlace x_namePlace x_awayTold x_away x_coded x_statements x_isCrossing x_textKind x_askSecond x_redMany x_isOpen x_lastGreen x_greenTo x_isCycleGreen x_stillGreen x_rowMany x_fitMany x_fitRules x_fitGreen x_undoable x_newest x_seeded x_qCoded x_qWaits x_qOpened x_qBase x_qPiled x_qAnswer x_qIsNew x_octets)), ((rm 77), .inl (cy 0, 720, .inl g_when))] → va_S A s.heap H locs → lv_has ls 6 [(0, .ref a_this), (1, .int p0), (2, .int J4_l2), (3, .int J4_l3), (4, .int J18_l4), (5, .int J18_l5)] → W p l e { frames := 0, cells := 0, slots := 0, locals := 0 } s m args below meth c H locs 0 0 Q (F0 m 18 ls []) := by
        intro n
        induction n with
        | zero =>
          intro J18_l4 J18_l5 H locs ls hK18_J4_l2 hK18_J4_l3 hK18_x_fitMany hJ18_l5 hm
          exact absurd hm (by have := hJ18_l5; unfold ib at this; omega)
        | succ n ih =>
          intro J18_l4 J18_l5 H locs ls hK18_J4_l2 hK18_J4_l3 hK18_x_fitMany hJ18_l5 hm18 hP hD hS hl
          have ih18 := ih
          have jn56 : ∀ (J56_l4 : Int32) (H : Heap) (locs : List Loc) (ls : Array Slot), ib J4_l2 0 2147483647 → ib J4_l3 0 59 → ib J18_l5 0 59 → ib x_fitMany 1 60 → va_P (dC, dI) vwCl [(a_this, .inr (10, mfs rm x_taped x_at x_end x_ended x_bad x_badPlace x_fault x_faultPlace x_namePlace x_awayTold x_away x_coded x_statements x_isCrossing x_textKind x_askSecond x_redMany x_isOpen x_lastGreen x_greenTo x_isCycleGreen x_stillGreen x_rowMany x_fitMany x_fitRules x_fitGreen x_undoable x_newest x_seeded x_qCoded x_qWaits x_qOpened x_qBase x_qPiled x_qAnswer x_qIsNew x_octets)), ((rm 77), .inl (cy 0, 720, .inl g_when))] H → va_D A [(a_this, .inr (10, mfs rm x_taped x_at x_end x_ended x_bad x_badPlace x_fault x_faultPlace x_namePlace x_awayTold x_away x_coded x_statements x_isCrossing x_textKind x_askSecond x_redMany x_isOpen x_lastGreen x_greenTo x_isCycleGreen x_stillGreen x_rowMany x_fitMany x_fitRules x_fitGreen x_undoable x_newest x_seeded x_qCoded x_qWaits x_qOpened x_qBase x_qPiled x_qAnswer x_qIsNew x_octets)), ((rm 77), .inl (cy 0, 720, .inl g_when))] → va_S A s.heap H locs → lv_has ls 6 [(0, .ref a_this), (1, .int p0), (2, .int J4_l2), (3, .int J4_l3), (4, .int J56_l4), (5, .int J18_l5)] → W p l e { frames := 0, cells := 0, slots := 0, locals := 0 } s m args below meth c H locs 0 0 Q (F0 m 56 ls []) := by
            intro J56_l4 H locs ls hK56_J4_l2 hK56_J4_l3 hK56_J18_l5 hK56_x_fitMany hP hD hS hl
            obtain ⟨z4, ez4⟩ : ∃ y : Int32, y = J18_l5 + 1 := ⟨_, rfl⟩
            refine lv_iinc (v := z4) (lv' := [(5, .int z4), (0, .ref a_this), (1, .int p0), (2, .int J4_l2), (3, .int J4_l3), (4, .int J56_l4)]) hx hb dX10_mostAlike_56 hl (k := 5) rfl (by rw [ez4]; rfl) (by decide) rfl (fun ls hl => ?_)
            have h5 := ib_add hK56_J18_l5 (ib_c 1 1 1 (by decide)) (by decide)
            rw [← ez4] at h5
            have h6 : ib z4 1 60 := ib_w 1 60 h5.1 (by decide)
            refine lv_goto (tgt := 18) hx hb dX10_mostAlike_59 (by decide) ?_
            exact ih18 J56_l4 z4 H locs ls (ib_w 0 2147483647 hK56_J4_l2 (by decide)) (ib_w 0 59 hK56_J4_l3 (by decide)) (ib_w 1 60 hK56_x_fitMany (by decide)) (ib_w 0 60 h6 (by decide)) (by have := h5.2; have : (1 : Int32).toInt = 1 := (by decide); omega) hP hD hS (lv_sub hl [1, 2, 3, 4, 5, 0] rfl)
          refine lv_iload hx hb dX10_mostAlike_18 (lv_at hl 5 rfl) ?_
          refine lv_aload_n hx hb dX10_mostAlike_20 rfl (lv_at hl 0 rfl) ?_
          refine k_get C0 fg_X10_570 hP 0 rfl rfl dX10_mostAlike_21 ?_
          refine lv_icmp_ge (tgt := 62) hx hb dX10_mostAlike_24 (by decide) (fun c7 => ?_) (fun c7 => ?_)
          · have h8 := ib_le hK18_x_fitMany hJ18_l5 c7
            have h9 : ib J18_l5 1 60 := ib_w 1 60 h8.2 (by decide)
            refine lv_iload hx hb dX10_mostAlike_62 (lv_at hl 4 rfl) ?_
            refine lv_iload_n hx hb dX10_mostAlike_64 rfl (lv_at hl 2 rfl) ?_
            refine lv_icmp_le (tgt := 71) hx hb dX10_mostAlike_65 (by decide) (fun c10 => ?_) (fun c10 => ?_)
            · have h11 := ib_le (ib_any J18_l4) hK18_J4_l2 c10
              exact jn71 J18_l4 J18_l5 J4_l2 H locs ls (ib_w 0 59 hK18_J4_l3 (by decide)) (ib_w 1 60 h9 (by decide)) (ib_w 1 60 hK18_x_fitMany (by decide)) (ib_w 0 2147483647 hK18_J4_l2 (by decide)) hP hD hS (lv_sub hl [0, 1, 2, 3, 4, 5] rfl)
            · have h12 := ib_nle (ib_any J18_l4) hK18_J4_l2 c10
              have h13 : ib J18_l4 1 2147483647 := ib_w 1 2147483647 h12.1 (by decide)
              have h14 : ib J4_l2 0 2147483646 := ib_w 0 2147483646 h12.2 (by decide)
              refine lv_iload hx hb dX10_mostAlike_68 (lv_at hl 4 rfl) ?_
              refine lv_istore_n (lv' := [(2, .int J18_l4), (0, .ref a_this), (1, .int p0), (3, .int J4_l3), (4, .int J18_l4), (5, .int J18_l5)]) hx hb dX10_mostAlike_70 rfl hl (by decide) rfl (fun ls hl => ?_)
              exact jn71 J18_l4 J18_l5 J18_l4 H locs ls (ib_w 0 59 hK18_J4_l3 (by decide)) (ib_w 1 60 h9 (by decide)) (ib_w 1 60 hK18_x_fitMany (by decide)) (ib_w 0 2147483647 h13 (by decide)) hP hD hS (lv_sub hl [1, 2, 0, 3, 4, 5] rfl)
          · have h15 := ib_nle hK18_x_fitMany hJ18_l5 c7
            have h16 : ib J18_l5 0 59 := ib_w 0 59 h15.2 (by decide)
            refine lv_aload_n hx hb dX10_mostAlike_27 rfl (lv_at hl 0 rfl) ?_
            refine k_get C0 fg_X10_179 hP 0 rfl rfl dX10_mostAlike_28 ?_
            refine lv_bipush (v := 12) hx hb dX10_mostAlike_31 (by decide) ?_
            refine lv_iload_n hx hb dX10_mostAlike_33 rfl (lv_at hl 3 rfl) ?_
            refine lv_imul hx hb dX10_mostAlike_34 ?_
            refine lv_topi (fun z17 ez17 => ?_)
            have h18 := ib_mul (ib_c 12 12 12 (by decide)) hK18_J4_l3 (by decide)
            rw [← ez17] at h18
            have h19 : ib z17 0 708 := ib_w 0 708 h18.1 (by decide)
            have h20 : z17.toInt = 12 * J4_l3.toInt := by have q0 := h18.2; rw [show (12 : Int32).toInt = 12 from by decide] at q0; omega
            refine lv_iload_n hx hb dX10_mostAlike_35 rfl (lv_at hl 1 rfl) ?_
            refine lv_iadd hx hb dX10_mostAlike_36 ?_
            refine lv_topi (fun z21 ez21 => ?_)
            have h22 := ib_add h19 hp0 (by decide)
            rw [← ez21] at h22
            have h23 : ib z21 0 719 := ib_w 0 719 h22.1 (by decide)
            refine va_iald hx hb C0.2.2.2.2.2.1 hP 1 0 rfl rfl (ib_in 720 h23 (by decide)) dX10_mostAlike_37 ?_
            refine lv_topi (fun z24 ez24 => ?_)
            refine lv_aload_n hx hb dX10_mostAlike_38 rfl (lv_at hl 0 rfl) ?_
            refine k_get C0 fg_X10_179 hP 0 rfl rfl dX10_mostAlike_39 ?_
            refine lv_bipush (v := 12) hx hb dX10_mostAlike_42 (by decide) ?_
            refine lv_iload hx hb dX10_mostAlike_44 (lv_at hl 5 rfl) ?_
            refine lv_imul hx hb dX10_mostAlike_46 ?_
            refine lv_topi (fun z25 ez25 => ?_)
            have h26 := ib_mul (ib_c 12 12 12 (by decide)) h16 (by decide)
            rw [← ez25] at h26
            have h27 : ib z25 0 708 := ib_w 0 708 h26.1 (by decide)
            have h28 : z25.toInt = 12 * J18_l5.toInt := by have q0 := h26.2; rw [show (12 : Int32).toInt = 12 from by decide] at q0; omega
            refine lv_iload_n hx hb dX10_mostAlike_47 rfl (lv_at hl 1 rfl) ?_
            refine lv_iadd hx hb dX10_mostAlike_48 ?_
            refine lv_topi (fun z29 ez29 => ?_)
            have h30 := ib_add h27 hp0 (by decide)
            rw [← ez29] at h30
            have h31 : ib z29 0 719 := ib_w 0 719 h30.1 (by decide)
            refine va_iald hx hb C0.2.2.2.2.2.1 hP 1 0 rfl rfl (ib_in 720 h31 (by decide)) dX10_mostAlike_49 ?_
            refine lv_topi (fun z32 ez32 => ?_)
            refine lv_icmp_ne (tgt := 56) hx hb dX10_mostAlike_50 (by decide) (fun c33 => ?_) (fun c33 => ?_)
            · skip
              exact jn56 J18_l4 H locs ls (ib_w 0 2147483647 hK18_J4_l2 (by decide)) (ib_w 0 59 hK18_J4_l3 (by decide)) (ib_w 0 59 h16 (by decide)) (ib_w 1 60 hK18_x_fitMany (by decide)) hP hD hS (lv_sub hl [0, 1, 2, 3, 4, 5] rfl)
            · have h34 := ib_eq (ib_any z24) (ib_any z32) c33
              obtain ⟨z35, ez35⟩ : ∃ y : Int32, y = J18_l4 + 1 := ⟨_, rfl⟩
              refine lv_iinc (v := z35) (lv' := [(4, .int z35), (0, .ref a_this), (1, .int p0), (2, .int J4_l2), (3, .int J4_l3), (5, .int J18_l5)]) hx hb dX10_mostAlike_53 hl (k := 4) rfl (by rw [ez35]; rfl) (by decide) rfl (fun ls hl => ?_)
              exact jn56 z35 H locs ls (ib_w 0 2147483647 hK18_J4_l2 (by decide)) (ib_w 0 59 hK18_J4_l3 (by decide)) (ib_w 0 59 h16 (by decide)) (ib_w 1 60 hK18_x_fitMany (by decide)) hP hD hS (lv_sub hl [1, 2, 3, 4, 0, 5] rfl)
      refine lv_iload_n hx hb dX10_mostAlike_4 rfl (lv_at hl 3 rfl) ?_
      refine lv_aload_n hx hb dX10_mostAlike_5 rfl (lv_at hl 0 rfl) ?_
      refine k_get C0 fg_X10_570 hP 0 rfl rfl dX10_mostAlike_6 ?_
      refine lv_icmp_ge (tgt := 77) hx hb dX10_mostAlike_9 (by decide) (fun c36 => ?_) (fun c36 => ?_)
      · have h37 := ib_le hx_fitMany hJ4_l3 c36
        refine lv_iload_n hx hb dX10_mostAlike_77 rfl (lv_at hl 2 rfl) ?_
        subst hQ; exact k_iret hx hb hr hlk rfl () hS (ib_w 0 2147483647 hJ4_l2 (by decide)) hP hD (Nat.le_of_ble_eq_true rfl) (Nat.le_of_ble_eq_true rfl) dX10_mostAlike_78
      · have h38 := ib_nle hx_fitMany hJ4_l3 c36
        have h39 : ib x_fitMany 1 60 := ib_w 1 60 h38.1 (by decide)
        have h40 : ib J4_l3 0 59 := ib_w 0 59 h38.2 (by decide)
        refine lv_iconst (v := 0) hx hb dX10_mostAlike_12 (by decide) ?_
        refine lv_istore (lv' := [(4, .int 0), (0, .ref a_this), (1, .int p0), (2, .int J4_l2), (3, .int J4_l3)]) hx hb dX10_mostAlike_13 hl (by decide) rfl (fun ls hl => ?_)
        refine lv_iconst (v := 0) hx hb dX10_mostAlike_15 (by decide) ?_
        refine lv_istore (lv' := [(5, .int 0), (4, .int 0), (0, .ref a_this), (1, .int p0), (2, .int J4_l2), (3, .int J4_l3)]) hx hb dX10_mostAlike_16 hl (by decide) rfl (fun ls hl => ?_)
        exact jn18 62 0 0 H locs ls (ib_w 0 2147483647 hJ4_l2 (by decide)) (ib_w 0 59 h40 (by decide)) (ib_w 1 60 h39 (by decide)) (ib_w 0 60 (ib_c 0 0 0 (by decide)) (by decide)) (by have := (ib_c 0 0 0 (by decide)); unfold ib at this; omega) hP hD hS (lv_sub hl [2, 3, 4, 5, 1, 0] rfl)
  refine lv_iconst (v := 0) hx hb dX10_mostAlike_0 (by decide) ?_
  refine lv_istore_n (lv' := [(2, .int 0), (0, .ref a_this), (1, .int p0)]) hx hb dX10_mostAlike_1 rfl hl (by decide) rfl (fun ls hl => ?_)
  refine lv_iconst (v := 0) hx hb dX10_mostAlike_2 (by decide) ?_
  refine lv_istore_n (lv' := [(3, .int 0), (2, .int 0), (0, .ref a_this), (1, .int p0)]) hx hb dX10_mostAlike_3 rfl hl (by decide) rfl (fun ls hl => ?_)
  exact jn4 62 0 0 H locs ls (ib_w 0 2147483647 (ib_c 0 0 0 (by decide)) (by decide)) (ib_w 0 60 (ib_c 0 0 0 (by decide)) (by decide)) (by have := (ib_c 0 0 0 (by decide)); unfold ib at this; omega) hP hD hS (lv_sub hl [2, 3, 1, 0] rfl)
set_option maxHeartbeats 4000000 in
set_option maxRecDepth 100000 in
theorem s_X10_nameOf (l : Launch) (dC : Nat → ClassId) (dI : Nat → Nat → Nat) (cy : Nat → ClassId) (sq : Nat → Nat) (a_this : Nat) (rm : Nat → Nat) (x_taped : Int32) (x_at : Int32) (x_end : Int32) (x_ended : Int32) (x_bad : Int32) (x_badPlace : Int32) (x_fault : Int32) (x_faultPlace : Int32) (x_namePlace : Int32) (x_awayTold : Int32) (x_away : Int32) (x_coded : Int32) (x_statements : Int32) (x_isCrossing : Int32) (x_textKind : Int32) (x_askSecond : Int32) (x_redMany : Int32) (x_isOpen : Int32) (x_lastGreen : Int32) (x_greenTo : Int32) (x_isCycleGreen : Int32) (x_stillGreen : Int32) (x_rowMany : Int32) (x_fitMany : Int32) (x_fitRules : Int32) (x_fitGreen : Int32) (x_undoable : Int32) (x_newest : Int32) (x_seeded : Int64) (x_qCoded : Int32) (x_qWaits : Int32) (x_qOpened : Int32) (x_qBase : Int32) (x_qPiled : Int32) (x_qAnswer : Int64) (x_qIsNew : Int32) (x_octets : Int32) (g_many : Nat → Int32) (g_names : Nat → Int64) (p0 : Int32) (p1 : Int64) (hg_many : ia g_many 4 0 12) (hp0 : ib p0 0 1) : k_Met l yX10_nameOf cX10_nameOf 5 (some .int) { frames := 0, cells := 0, slots := 0, locals := 0 } dC dI cy sq [.ref a_this, .int p0, .long p1] [(a_this, .inr (10, mfs rm x_taped x_at x_end x_ended x_bad x_badPlace x_fault x_faultPlace x_namePlace x_awayTold x_away x_coded x_statements x_isCrossing x_textKind x_askSecond x_redMany x_isOpen x_lastGreen x_greenTo x_isCycleGreen x_stillGreen x_rowMany x_fitMany x_fitRules x_fitGreen x_undoable x_newest x_seeded x_qCoded x_qWaits x_qOpened x_qBase x_qPiled x_qAnswer x_qIsNew x_octets)), ((rm 41), .inl (cy 0, 4, .inl g_many)), ((rm 42), .inl (cy 1, 48, .inr (.inl g_names)))] (k_Qi dC dI (fun (r : Int32) (_ : Unit) => ib r (-1) 11) (fun _ : Unit => [(a_this, .inr (10, mfs rm x_taped x_at x_end x_ended x_bad x_badPlace x_fault x_faultPlace x_namePlace x_awayTold x_away x_coded x_statements x_isCrossing x_textKind x_askSecond x_redMany x_isOpen x_lastGreen x_greenTo x_isCycleGreen x_stillGreen x_rowMany x_fitMany x_fitRules x_fitGreen x_undoable x_newest x_seeded x_qCoded x_qWaits x_qOpened x_qBase x_qPiled x_qAnswer x_qIsNew x_octets)), ((rm 41), .inl (cy 0, 4, .inl g_many)), ((rm 42), .inl (cy 1, 48, .inr (.inl g_names)))])) := by
  refine k_ofW2 (by decide +kernel) (Nat.le_of_ble_eq_true rfl) ?_
  intro p e s m below meth c A ls H locs args Q hQ C0 hZ hr hlk hin hP hD hA hS hl
  have C0 : k_cx p s m args c cX10_nameOf 5 RX10 dC dI cy sq := C0
  have hx := C0.1
  have hb := C0.2.1
  have hl : lv_has ls 5 [(0, .ref a_this), (1, .int p0), (2, .long p1)] := hl
  have jn3 : ∀ (n : Nat) (J3_l4 : Int32) (H : Heap) (locs : List Loc) (ls : Array Slot), ib J3_l4 0 12 → 13 ≤ J3_l4.toInt + (n : Int) → va_P (dC, dI) vwCl [(a_this, .inr (10, mfs rm x_taped x_at x_end x_ended x_bad x_badPlace x_fault x_faultPlace x_namePlace x_awayTold x_away x_coded x_statements x_isCrossing x_textKind x_askSecond x_redMany x_isOpen x_lastGreen x_greenTo x_isCycleGreen x_stillGreen x_rowMany x_fitMany x_fitRules x_fitGreen x_undoable x_newest x_seeded x_qCoded x_qWaits x_qOpened x_qBase x_qPiled x_qAnswer x_qIsNew x_octets)), ((rm 41), .inl (cy 0, 4, .inl g_many)), ((rm 42), .inl (cy 1, 48, .inr (.inl g_names)))] H → va_D A [(a_this, .inr (10, mfs rm x_taped x_at x_end x_ended x_bad x_badPlace x_fault x_faultPlace x_namePlace x_awayTold x_away x_coded x_statements x_isCrossing x_textKind x_askSecond x_redMany x_isOpen x_lastGreen x_greenTo x_isCycleGreen x_stillGreen x_rowMany x_fitMany x_fitRules x_fitGreen x_undoable x_newest x_seeded x_qCoded x_qWaits x_qOpened x_qBase x_qPiled x_qAnswer x_qIsNew x_octets)), ((rm 41), .inl (cy 0, 4, .inl g_many)), ((rm 42), .inl (cy 1, 48, .inr (.inl g_names)))] → va_S A s.heap H locs → lv_has ls 5 [(0, .ref a_this), (1, .int p0), (2, .long p1), (4, .int J3_l4)] → W p l e { frames := 0, cells := 0, slots := 0, locals := 0 } s m args below meth c H locs 0 0 Q (F0 m 3 ls []) := by
    intro n
    induction n with
    | zero =>
      intro J3_l4 H locs ls hJ3_l4 hm
      exact absurd hm (by have := hJ3_l4; unfold ib at this; omega)
    | succ n ih =>
      intro J3_l4 H locs ls hJ3_l4 hm3 hP hD hS hl
      have ih3 := ih
      refine lv_iload hx hb dX10_nameOf_3 (lv_at hl 3 rfl) ?_
      refine lv_aload_n hx hb dX10_nameOf_5 rfl (lv_at hl 0 rfl) ?_
      refine k_get C0 fg_X10_111 hP 0 rfl rfl dX10_nameOf_6 ?_
      refine lv_iload_n hx hb dX10_nameOf_9 rfl (lv_at hl 1 rfl) ?_
      refine va_iald hx hb C0.2.2.2.2.2.1 hP 1 0 rfl rfl (ib_in 4 hp0 (by decide)) dX10_nameOf_10 ?_
      refine lv_topi (fun z1 ez1 => ?_)
      have h2 : ib z1 0 12 := by rw [ez1]; exact ia_at hg_many (ib_in 4 hp0 (by decide))
      refine lv_icmp_ge (tgt := 40) hx hb dX10_nameOf_11 (by decide) (fun c3 => ?_) (fun c3 => ?_)
      · have h4 := ib_le h2 hJ3_l4 c3
        refine lv_iconst (v := (-1)) hx hb dX10_nameOf_40 (by decide) ?_
        subst hQ; exact k_iret hx hb hr hlk rfl () hS (ib_w (-1) 11 (ib_c (-1) (-1) (-1) (by decide)) (by decide)) hP hD (Nat.le_of_ble_eq_true rfl) (Nat.le_of_ble_eq_true rfl) dX10_nameOf_41
      · have h5 := ib_nle h2 hJ3_l4 c3
        have h6 : ib z1 1 12 := ib_w 1 12 h5.1 (by decide)
        have h7 : ib J3_l4 0 11 := ib_w 0 11 h5.2 (by decide)
        refine lv_aload_n hx hb dX10_nameOf_14 rfl (lv_at hl 0 rfl) ?_
        refine k_get C0 fg_X10_114 hP 0 rfl rfl dX10_nameOf_15 ?_
        refine lv_bipush (v := 12) hx hb dX10_nameOf_18 (by decide) ?_
        refine lv_iload_n hx hb dX10_nameOf_20 rfl (lv_at hl 1 rfl) ?_
        refine lv_imul hx hb dX10_nameOf_21 ?_
        refine lv_topi (fun z8 ez8 => ?_)
        have h9 := ib_mul (ib_c 12 12 12 (by decide)) hp0 (by decide)
        rw [← ez8] at h9
        have h10 : ib z8 0 12 := ib_w 0 12 h9.1 (by decide)
        have h11 : z8.toInt = 12 * p0.toInt := by have q0 := h9.2; rw [show (12 : Int32).toInt = 12 from by decide] at q0; omega
        refine lv_iload hx hb dX10_nameOf_22 (lv_at hl 3 rfl) ?_
        refine lv_iadd hx hb dX10_nameOf_24 ?_
        refine lv_topi (fun z12 ez12 => ?_)
        have h13 := ib_add h10 h7 (by decide)
        rw [← ez12] at h13
        have h14 : ib z12 0 23 := ib_w 0 23 h13.1 (by decide)
        refine va_lald hx hb C0.2.2.2.2.2.1 hP 2 1 rfl rfl (ib_in 48 h14 (by decide)) dX10_nameOf_25 ?_
        refine lv_topl (fun z15 ez15 => ?_)
        refine lv_lload_n hx hb dX10_nameOf_26 rfl (lv_at hl 2 rfl) ?_
        refine W.lcmp hx hb dX10_nameOf_27 ?_
        refine lv_topi (fun z16 ez16 => ?_)
        have h17 : ib z16 (-1) 1 := by rw [ez16]; exact ib_cmp _ _
        refine lv_if_ne (tgt := 34) hx hb dX10_nameOf_28 (by decide) (fun c18 => ?_) (fun c18 => ?_)
        · skip
          obtain ⟨z19, ez19⟩ : ∃ y : Int32, y = J3_l4 + 1 := ⟨_, rfl⟩
          refine lv_iinc (v := z19) (lv' := [(4, .int z19), (0, .ref a_this), (1, .int p0), (2, .long p1)]) hx hb dX10_nameOf_34 hl (k := 3) rfl (by rw [ez19]; rfl) (by decide) rfl (fun ls hl => ?_)
          have h20 := ib_add h7 (ib_c 1 1 1 (by decide)) (by decide)
          rw [← ez19] at h20
          have h21 : ib z19 1 12 := ib_w 1 12 h20.1 (by decide)
          refine lv_goto (tgt := 3) hx hb dX10_nameOf_37 (by decide) ?_
          exact ih3 z19 H locs ls (ib_w 0 12 h21 (by decide)) (by have := h20.2; have : (1 : Int32).toInt = 1 := (by decide); omega) hP hD hS (lv_sub hl [1, 2, 3, 0] rfl)
        · have h22 := ib_eq h17 (ib_c 0 0 0 (by decide)) c18
          have h23 : ib z16 0 0 := ib_w 0 0 h22.1 (by decide)
          refine lv_iload hx hb dX10_nameOf_31 (lv_at hl 3 rfl) ?_
          subst hQ; exact k_iret hx hb hr hlk rfl () hS (ib_w (-1) 11 h7 (by decide)) hP hD (Nat.le_of_ble_eq_true rfl) (Nat.le_of_ble_eq_true rfl) dX10_nameOf_33
  refine lv_iconst (v := 0) hx hb dX10_nameOf_0 (by decide) ?_
  refine lv_istore (lv' := [(4, .int 0), (0, .ref a_this), (1, .int p0), (2, .long p1)]) hx hb dX10_nameOf_1 hl (by decide) rfl (fun ls hl => ?_)
  exact jn3 14 0 H locs ls (ib_w 0 12 (ib_c 0 0 0 (by decide)) (by decide)) (by have := (ib_c 0 0 0 (by decide)); unfold ib at this; omega) hP hD hS (lv_sub hl [1, 2, 3, 0] rfl)
set_option maxHeartbeats 4000000 in
set_option maxRecDepth 100000 in
theorem s_X10_number (l : Launch) (dC : Nat → ClassId) (dI : Nat → Nat → Nat) (cy : Nat → ClassId) (sq : Nat → Nat) (a_this : Nat) (rm : Nat → Nat) (x_taped : Int32) (x_at : Int32) (x_end : Int32) (x_ended : Int32) (x_bad : Int32) (x_badPlace : Int32) (x_fault : Int32) (x_faultPlace : Int32) (x_namePlace : Int32) (x_awayTold : Int32) (x_away : Int32) (x_coded : Int32) (x_statements : Int32) (x_isCrossing : Int32) (x_textKind : Int32) (x_askSecond : Int32) (x_redMany : Int32) (x_isOpen : Int32) (x_lastGreen : Int32) (x_greenTo : Int32) (x_isCycleGreen : Int32) (x_stillGreen : Int32) (x_rowMany : Int32) (x_fitMany : Int32) (x_fitRules : Int32) (x_fitGreen : Int32) (x_undoable : Int32) (x_newest : Int32) (x_seeded : Int64) (x_qCoded : Int32) (x_qWaits : Int32) (x_qOpened : Int32) (x_qBase : Int32) (x_qPiled : Int32) (x_qAnswer : Int64) (x_qIsNew : Int32) (x_octets : Int32) (g_tape : Nat → Int32) (p0 : Int32) (p1 : Int32) (hx_at : ib x_at 0 1600) (hx_end : ib x_end 0 1600) (hg_tape : ia g_tape 1600 0 255) : k_Met l yX10_number cX10_number 5 (some .int) { frames := 1, cells := 0, slots := 0, locals := 25 } dC dI cy sq [.ref a_this, .int p0, .int p1] [(a_this, .inr (10, mfs rm x_taped x_at x_end x_ended x_bad x_badPlace x_fault x_faultPlace x_namePlace x_awayTold x_away x_coded x_statements x_isCrossing x_textKind x_askSecond x_redMany x_isOpen x_lastGreen x_greenTo x_isCycleGreen x_stillGreen x_rowMany x_fitMany x_fitRules x_fitGreen x_undoable x_newest x_seeded x_qCoded x_qWaits x_qOpened x_qBase x_qPiled x_qAnswer x_qIsNew x_octets)), ((rm 0), .inl (cy 0, 1600, .inl g_tape))] (k_Qi dC dI (fun (r : Int32) (u : Int32 × Int32 × Int32 × Int32) => match u with | (n0, n1, n2, n3) => ib n0 0 1600 ∧ (n2 = 0 → x_bad = 0) ∧ (1 * x_at.toInt + (-1) * n0.toInt ≤ 0) ∧ (n2 = 0 → 1 * x_at.toInt + (-1) * n0.toInt ≤ (-1))) (fun u : Int32 × Int32 × Int32 × Int32 => match u with | (n0, n1, n2, n3) => [(a_this, .inr (10, mfs rm x_taped n0 x_end n1 n2 n3 x_fault x_faultPlace x_namePlace x_awayTold x_away x_coded x_statements x_isCrossing x_textKind x_askSecond x_redMany x_isOpen x_lastGreen x_greenTo x_isCycleGreen x_stillGreen x_rowMany x_fitMany x_fitRules x_fitGreen x_undoable x_newest x_seeded x_qCoded x_qWaits x_qOpened x_qBase x_qPiled x_qAnswer x_qIsNew x_octets)), ((rm 0), .inl (cy 0, 1600, .inl g_tape))])) := by
  refine k_ofW2 (by decide +kernel) (Nat.le_of_ble_eq_true rfl) ?_
  intro p e s m below meth c A ls H locs args Q hQ C0 hZ hr hlk hin hP hD hA hS hl
  have C0 : k_cx p s m args c cX10_number 5 RX10 dC dI cy sq := C0
  have hx := C0.1
  have hb := C0.2.1
  have hl : lv_has ls 5 [(0, .ref a_this), (1, .int p0), (2, .int p1)] := hl
  have jn49 : ∀ (n : Nat) (J49_l3 : Int32) (J49_c0_2 : Int32) (J49_l4 : Int32) (H : Heap) (locs : List Loc) (ls : Array Slot), ib J49_l3 0 1599 → ib J49_c0_2 0 1600 → ib x_end 1 1600 → ib x_bad 0 0 → (1 * x_at.toInt + (-1) * J49_l3.toInt ≤ 0) → (1 * x_at.toInt + (-1) * J49_c0_2.toInt ≤ 0) → (J49_l3.toInt + 1 ≤ J49_c0_2.toInt ∨ (J49_l3 = J49_c0_2 ∧ ib (g_tape (Int32.toNatClampNeg J49_c0_2)) 48 57 ∧ J49_c0_2.toInt < x_end.toInt)) → 1601 ≤ J49_c0_2.toInt + (n : Int) → va_P (dC, dI) vwCl [(a_this, .inr (10, mfs rm x_taped J49_c0_2 x_end x_ended x_bad x_badPlace x_fault x_faultPlace x_namePlace x_awayTold x_away x_coded x_statements x_isCrossing x_textKind x_askSecond x_redMany x_isOpen x_lastGreen x_greenTo x_isCycleGreen x_stillGreen x_rowMany x_fitMany x_fitRules x_fitGreen x_undoable x_newest x_seeded x_qCoded x_qWaits x_qOpened x_qBase x_qPiled x_qAnswer x_qIsNew x_octets)), ((rm 0), .inl (cy 0, 1600, .inl g_tape))] H → va_D A [(a_this, .inr (10, mfs rm x_taped J49_c0_2 x_end x_ended x_bad x_badPlace x_fault x_faultPlace x_namePlace x_awayTold x_away x_coded x_statements x_isCrossing x_textKind x_askSecond x_redMany x_isOpen x_lastGreen x_greenTo x_isCycleGreen x_stillGreen x_rowMany x_fitMany x_fitRules x_fitGreen x_undoable x_newest x_seeded x_qCoded x_qWaits x_qOpened x_qBase x_qPiled x_qAnswer x_qIsNew x_octets)), ((rm 0), .inl (cy 0, 1600, .inl g_tape))] → va_S A s.heap H locs → lv_has ls 5 [(0, .ref a_this), (1, .int p0), (2, .int p1), (3, .int J49_l3), (4, .int J49_l4)] → W p l e { frames := 1, cells := 0, slots := 0, locals := 25 } s m args below meth c H locs 0 0 Q (F0 m 49 ls []) := by
    intro n
    induction n with
    | zero =>
      intro J49_l3 J49_c0_2 J49_l4 H locs ls hJ49_l3 hJ49_c0_2 hK49_x_end hK49_x_bad hJ49_lin0 hJ49_lin1 hJ49_gh hm
      exact absurd hm (by have := hJ49_c0_2; unfold ib at this; omega)
    | succ n ih =>
      intro J49_l3 J49_c0_2 J49_l4 H locs ls hJ49_l3 hJ49_c0_2 hK49_x_end hK49_x_bad hJ49_lin0 hJ49_lin1 hJ49_gh hm49 hP hD hS hl
      have ih49 := ih
      refine lv_aload_n hx hb dX10_number_49 rfl (lv_at hl 0 rfl) ?_
      refine k_get C0 fg_X10_285 hP 0 rfl rfl dX10_number_50 ?_
      refine lv_aload_n hx hb dX10_number_53 rfl (lv_at hl 0 rfl) ?_
      refine k_get C0 fg_X10_288 hP 0 rfl rfl dX10_number_54 ?_
      refine lv_icmp_ge (tgt := 129) hx hb dX10_number_57 (by decide) (fun c1 => ?_) (fun c1 => ?_)
      · have h2 := ib_le hK49_x_end hJ49_c0_2 c1
        have h3 : ib J49_c0_2 1 1600 := ib_w 1 1600 h2.2 (by decide)
        have h4 : ib x_at 0 1599 := ⟨(hx_at).1, by have := (hx_at).1; have := (hx_at).2; have := hJ49_lin0; have := hJ49_lin1; have := (h3).1; have := (h3).2; have := (hJ49_l3).1; have := (hJ49_l3).2; omega⟩
        have h5 : J49_l3.toInt + 1 ≤ J49_c0_2.toInt := by rcases hJ49_gh with q | q; exact q; exact absurd q.2.2 (by have := (hK49_x_end).1; have := (hK49_x_end).2; have := (h3).1; have := (h3).2; have := hJ49_lin1; have := (h4).1; have := (h4).2; have := hJ49_lin0; have := (hJ49_l3).1; have := (hJ49_l3).2; have := Int32.le_iff_toInt_le.mp c1; omega)
        have h6 : 1 * J49_l3.toInt + (-1) * J49_c0_2.toInt ≤ (-1) := by omega
        refine lv_aload_n hx hb dX10_number_129 rfl (lv_at hl 0 rfl) ?_
        refine lv_aload_n hx hb dX10_number_130 rfl (lv_at hl 0 rfl) ?_
        refine k_get C0 fg_X10_285 hP 0 rfl rfl dX10_number_131 ?_
        refine k_put C0 fp_X10_299 hP hD hS 0 rfl rfl rfl (Nat.le_of_ble_eq_true rfl) dX10_number_134 (fun H locs hP hD hS => ?_)
        have hP : va_P (dC, dI) vwCl [(a_this, .inr (10, mfs rm x_taped J49_c0_2 x_end J49_c0_2 x_bad x_badPlace x_fault x_faultPlace x_namePlace x_awayTold x_away x_coded x_statements x_isCrossing x_textKind x_askSecond x_redMany x_isOpen x_lastGreen x_greenTo x_isCycleGreen x_stillGreen x_rowMany x_fitMany x_fitRules x_fitGreen x_undoable x_newest x_seeded x_qCoded x_qWaits x_qOpened x_qBase x_qPiled x_qAnswer x_qIsNew x_octets)), ((rm 0), .inl (cy 0, 1600, .inl g_tape))] H := hP
        have hD : va_D A [(a_this, .inr (10, mfs rm x_taped J49_c0_2 x_end J49_c0_2 x_bad x_badPlace x_fault x_faultPlace x_namePlace x_awayTold x_away x_coded x_statements x_isCrossing x_textKind x_askSecond x_redMany x_isOpen x_lastGreen x_greenTo x_isCycleGreen x_stillGreen x_rowMany x_fitMany x_fitRules x_fitGreen x_undoable x_newest x_seeded x_qCoded x_qWaits x_qOpened x_qBase x_qPiled x_qAnswer x_qIsNew x_octets)), ((rm 0), .inl (cy 0, 1600, .inl g_tape))] := hD
        refine lv_iload hx hb dX10_number_137 (lv_at hl 4 rfl) ?_
        refine lv_i2l (v := J49_l4.toInt64) hx hb dX10_number_139 rfl ?_
        refine lv_iload_n hx hb dX10_number_140 rfl (lv_at hl 1 rfl) ?_
        refine lv_i2l (v := p0.toInt64) hx hb dX10_number_141 rfl ?_
        refine lv_iload_n hx hb dX10_number_142 rfl (lv_at hl 2 rfl) ?_
        refine lv_i2l (v := p1.toInt64) hx hb dX10_number_143 rfl ?_
        refine k_ji hP hD hS hA [] [0, 1] (wr := [(a_this, .inr (10, mfs rm x_taped J49_c0_2 x_end J49_c0_2 x_bad x_badPlace x_fault x_faultPlace x_namePlace x_awayTold x_away x_coded x_statements x_isCrossing x_textKind x_askSecond x_redMany x_isOpen x_lastGreen x_greenTo x_isCycleGreen x_stillGreen x_rowMany x_fitMany x_fitRules x_fitGreen x_undoable x_newest x_seeded x_qCoded x_qWaits x_qOpened x_qBase x_qPiled x_qAnswer x_qIsNew x_octets)), ((rm 0), .inl (cy 0, 1600, .inl g_tape))]) rfl rfl (by decide) (by decide) (by decide) 0 0 (Nat.le_of_ble_eq_true rfl) (Nat.le_of_ble_eq_true rfl) (fun hPc hDc => k_runS (As := [.long J49_l4.toInt64, .long p0.toInt64, .long p1.toInt64]) (rest := []) C0 hZ hS hA (c_isIn l dC dI cy sq J49_l4.toInt64 p0.toInt64 p1.toInt64) mS_X10_318 hPc hDc hl rfl rfl (Nat.le_of_ble_eq_true rfl) ⟨(Nat.le_of_ble_eq_true rfl), (Nat.le_of_ble_eq_true rfl)⟩ ⟨(Nat.le_of_ble_eq_true rfl), (Nat.le_of_ble_eq_true rfl)⟩ dX10_number_144) (fun r7 u8 H locs hw hP hD hS => ?_)
        have hP : va_P (dC, dI) vwCl [(a_this, .inr (10, mfs rm x_taped J49_c0_2 x_end J49_c0_2 x_bad x_badPlace x_fault x_faultPlace x_namePlace x_awayTold x_away x_coded x_statements x_isCrossing x_textKind x_askSecond x_redMany x_isOpen x_lastGreen x_greenTo x_isCycleGreen x_stillGreen x_rowMany x_fitMany x_fitRules x_fitGreen x_undoable x_newest x_seeded x_qCoded x_qWaits x_qOpened x_qBase x_qPiled x_qAnswer x_qIsNew x_octets)), ((rm 0), .inl (cy 0, 1600, .inl g_tape))] H := hP
        have hD : va_D A [(a_this, .inr (10, mfs rm x_taped J49_c0_2 x_end J49_c0_2 x_bad x_badPlace x_fault x_faultPlace x_namePlace x_awayTold x_away x_coded x_statements x_isCrossing x_textKind x_askSecond x_redMany x_isOpen x_lastGreen x_greenTo x_isCycleGreen x_stillGreen x_rowMany x_fitMany x_fitRules x_fitGreen x_undoable x_newest x_seeded x_qCoded x_qWaits x_qOpened x_qBase x_qPiled x_qAnswer x_qIsNew x_octets)), ((rm 0), .inl (cy 0, 1600, .inl g_tape))] := hD
        have h9 := hw
        have h10 : ib r7 0 1 := by rw [h9]; exact k_isf_01 _ _ _
        refine lv_if_ne (tgt := 156) hx hb dX10_number_147 (by decide) (fun c11 => ?_) (fun c11 => ?_)
        · have h12 : ib r7 1 1 := ib_w 1 1 (ib_ne_lo 0 h10 (by decide) c11) (by decide)
          refine lv_iload hx hb dX10_number_156 (lv_at hl 4 rfl) ?_
          subst hQ; exact k_iret hx hb hr hlk rfl ((J49_c0_2, J49_c0_2, x_bad, x_badPlace)) hS ⟨ib_w 0 1600 h3 (by decide), fun q => q, (by have := (h3).1; have := (h3).2; have := hJ49_lin1; have := h6; have := (hJ49_l3).1; have := (hJ49_l3).2; have := hJ49_lin0; have := (h4).1; have := (h4).2; omega), fun hq9 => (by have := (h3).1; have := (h3).2; have := hJ49_lin1; have := h6; have := (hJ49_l3).1; have := (hJ49_l3).2; have := hJ49_lin0; have := (h4).1; have := (h4).2; omega)⟩ hP hD (Nat.le_of_ble_eq_true rfl) (Nat.le_of_ble_eq_true rfl) dX10_number_158
        · have h13 := ib_eq h10 (ib_c 0 0 0 (by decide)) c11
          have h14 : ib r7 0 0 := ib_w 0 0 h13.1 (by decide)
          refine lv_aload_n hx hb dX10_number_150 rfl (lv_at hl 0 rfl) ?_
          refine lv_iconst (v := 2) hx hb dX10_number_151 (by decide) ?_
          refine lv_iload_n hx hb dX10_number_152 rfl (lv_at hl 3 rfl) ?_
          refine k_jv hP hD hS hA [0] [1] (wr := [((rm 0), .inl (cy 0, 1600, .inl g_tape))]) rfl rfl (by decide) (by decide) (by decide) 0 0 (Nat.le_of_ble_eq_true rfl) (Nat.le_of_ble_eq_true rfl) (fun hPc hDc => k_runV (As := [.int 2, .int J49_l3]) (rest := []) C0 hZ hS hA (s_X10_fail_a0_2_f_bad_0_0 l dC dI cy sq a_this rm x_taped J49_c0_2 x_end J49_c0_2 x_bad x_badPlace x_fault x_faultPlace x_namePlace x_awayTold x_away x_coded x_statements x_isCrossing x_textKind x_askSecond x_redMany x_isOpen x_lastGreen x_greenTo x_isCycleGreen x_stillGreen x_rowMany x_fitMany x_fitRules x_fitGreen x_undoable x_newest x_seeded x_qCoded x_qWaits x_qOpened x_qBase x_qPiled x_qAnswer x_qIsNew x_octets J49_l3 (ib_w 0 0 hK49_x_bad (by decide))) mV_X10_308 hPc hDc rfl rfl rfl hl rfl rfl (Nat.le_of_ble_eq_true rfl) ⟨(Nat.le_of_ble_eq_true rfl), (Nat.le_of_ble_eq_true rfl)⟩ ⟨(Nat.le_of_ble_eq_true rfl), (Nat.le_of_ble_eq_true rfl)⟩ dX10_number_153) (fun u16 H locs hw hP hD hS => ?_)
          try dsimp only at hP hD hw
          have hP : va_P (dC, dI) vwCl [((rm 0), .inl (cy 0, 1600, .inl g_tape)), (a_this, .inr (10, mfs rm x_taped J49_c0_2 x_end J49_c0_2 2 J49_l3 x_fault x_faultPlace x_namePlace x_awayTold x_away x_coded x_statements x_isCrossing x_textKind x_askSecond x_redMany x_isOpen x_lastGreen x_greenTo x_isCycleGreen x_stillGreen x_rowMany x_fitMany x_fitRules x_fitGreen x_undoable x_newest x_seeded x_qCoded x_qWaits x_qOpened x_qBase x_qPiled x_qAnswer x_qIsNew x_octets))] H := hP
          have hD : va_D A [((rm 0), .inl (cy 0, 1600, .inl g_tape)), (a_this, .inr (10, mfs rm x_taped J49_c0_2 x_end J49_c0_2 2 J49_l3 x_fault x_faultPlace x_namePlace x_awayTold x_away x_coded x_statements x_isCrossing x_textKind x_askSecond x_redMany x_isOpen x_lastGreen x_greenTo x_isCycleGreen x_stillGreen x_rowMany x_fitMany x_fitRules x_fitGreen x_undoable x_newest x_seeded x_qCoded x_qWaits x_qOpened x_qBase x_qPiled x_qAnswer x_qIsNew x_octets))] := hD
          refine lv_iload hx hb dX10_number_156 (lv_at hl 4 rfl) ?_
          subst hQ; exact k_iret hx hb hr hlk rfl ((J49_c0_2, J49_c0_2, 2, J49_l3)) hS ⟨ib_w 0 1600 h3 (by decide), fun q => absurd q (by decide), (by have := (h3).1; have := (h3).2; have := hJ49_lin1; have := h6; have := (hJ49_l3).1; have := (hJ49_l3).2; have := hJ49_lin0; have := (h4).1; have := (h4).2; omega), fun q => absurd q (by decide)⟩ (hP.sub [1, 0] rfl) (hD.sub [1, 0] (by decide) rfl) (Nat.le_of_ble_eq_true rfl) (Nat.le_of_ble_eq_true rfl) dX10_number_158
      · have h17 := ib_nle hK49_x_end hJ49_c0_2 c1
        have h18 : ib J49_c0_2 0 1599 := ib_w 0 1599 h17.2 (by decide)
        have h19 : ib x_at 0 1599 := ⟨(hx_at).1, by have := (hx_at).1; have := (hx_at).2; have := hJ49_lin0; have := hJ49_lin1; have := (h18).1; have := (h18).2; have := (hJ49_l3).1; have := (hJ49_l3).2; omega⟩
        refine lv_aload_n hx hb dX10_number_60 rfl (lv_at hl 0 rfl) ?_
        refine k_get C0 fg_X10_7 hP 0 rfl rfl dX10_number_61 ?_
        refine lv_aload_n hx hb dX10_number_64 rfl (lv_at hl 0 rfl) ?_
        refine k_get C0 fg_X10_285 hP 0 rfl rfl dX10_number_65 ?_
        refine va_iald hx hb C0.2.2.2.2.2.1 hP 1 0 rfl rfl (ib_in 1600 h18 (by decide)) dX10_number_68 ?_
        refine lv_topi (fun z20 ez20 => ?_)
        have h21 : ib z20 0 255 := by rw [ez20]; exact ia_at hg_tape (ib_in 1600 h18 (by decide))
        refine k_ji hP hD hS hA [] [0, 1] (wr := [(a_this, .inr (10, mfs rm x_taped J49_c0_2 x_end x_ended x_bad x_badPlace x_fault x_faultPlace x_namePlace x_awayTold x_away x_coded x_statements x_isCrossing x_textKind x_askSecond x_redMany x_isOpen x_lastGreen x_greenTo x_isCycleGreen x_stillGreen x_rowMany x_fitMany x_fitRules x_fitGreen x_undoable x_newest x_seeded x_qCoded x_qWaits x_qOpened x_qBase x_qPiled x_qAnswer x_qIsNew x_octets)), ((rm 0), .inl (cy 0, 1600, .inl g_tape))]) rfl rfl (by decide) (by decide) (by decide) 0 0 (Nat.le_of_ble_eq_true rfl) (Nat.le_of_ble_eq_true rfl) (fun hPc hDc => k_runS (As := [.int z20]) (rest := []) C0 hZ hS hA (s_X10_isDigit l dC dI cy sq z20 ) mS_X10_315 hPc hDc hl rfl rfl (Nat.le_of_ble_eq_true rfl) ⟨(Nat.le_of_ble_eq_true rfl), (Nat.le_of_ble_eq_true rfl)⟩ ⟨(Nat.le_of_ble_eq_true rfl), (Nat.le_of_ble_eq_true rfl)⟩ dX10_number_69) (fun r22 u23 H locs hw hP hD hS => ?_)
        try dsimp only at hP hD hw
        have hP : va_P (dC, dI) vwCl [(a_this, .inr (10, mfs rm x_taped J49_c0_2 x_end x_ended x_bad x_badPlace x_fault x_faultPlace x_namePlace x_awayTold x_away x_coded x_statements x_isCrossing x_textKind x_askSecond x_redMany x_isOpen x_lastGreen x_greenTo x_isCycleGreen x_stillGreen x_rowMany x_fitMany x_fitRules x_fitGreen x_undoable x_newest x_seeded x_qCoded x_qWaits x_qOpened x_qBase x_qPiled x_qAnswer x_qIsNew x_octets)), ((rm 0), .inl (cy 0, 1600, .inl g_tape))] H := hP
        have hD : va_D A [(a_this, .inr (10, mfs rm x_taped J49_c0_2 x_end x_ended x_bad x_badPlace x_fault x_faultPlace x_namePlace x_awayTold x_away x_coded x_statements x_isCrossing x_textKind x_askSecond x_redMany x_isOpen x_lastGreen x_greenTo x_isCycleGreen x_stillGreen x_rowMany x_fitMany x_fitRules x_fitGreen x_undoable x_newest x_seeded x_qCoded x_qWaits x_qOpened x_qBase x_qPiled x_qAnswer x_qIsNew x_octets)), ((rm 0), .inl (cy 0, 1600, .inl g_tape))] := hD
        obtain ⟨h24, h25, h26⟩ := hw
        refine lv_if_eq (tgt := 129) hx hb dX10_number_72 (by decide) (fun c27 => ?_) (fun c27 => ?_)
        · have h28 := ib_eq h24 (ib_c 0 0 0 (by decide)) c27
          have h29 : ib r22 0 0 := ib_w 0 0 h28.1 (by decide)
          have h30 : J49_l3.toInt + 1 ≤ J49_c0_2.toInt := by rcases hJ49_gh with q | q; exact q; exact absurd (show ib z20 48 57 by rw [ez20]; exact q.2.1) (h26 (ib_one h29 (by decide)))
          have h31 : 1 * J49_l3.toInt + (-1) * J49_c0_2.toInt ≤ (-1) := by omega
          refine lv_aload_n hx hb dX10_number_129 rfl (lv_at hl 0 rfl) ?_
          refine lv_aload_n hx hb dX10_number_130 rfl (lv_at hl 0 rfl) ?_
          refine k_get C0 fg_X10_285 hP 0 rfl rfl dX10_number_131 ?_
          refine k_put C0 fp_X10_299 hP hD hS 0 rfl rfl rfl (Nat.le_of_ble_eq_true rfl) dX10_number_134 (fun H locs hP hD hS => ?_)
          have hP : va_P (dC, dI) vwCl [(a_this, .inr (10, mfs rm x_taped J49_c0_2 x_end J49_c0_2 x_bad x_badPlace x_fault x_faultPlace x_namePlace x_awayTold x_away x_coded x_statements x_isCrossing x_textKind x_askSecond x_redMany x_isOpen x_lastGreen x_greenTo x_isCycleGreen x_stillGreen x_rowMany x_fitMany x_fitRules x_fitGreen x_undoable x_newest x_seeded x_qCoded x_qWaits x_qOpened x_qBase x_qPiled x_qAnswer x_qIsNew x_octets)), ((rm 0), .inl (cy 0, 1600, .inl g_tape))] H := hP
          have hD : va_D A [(a_this, .inr (10, mfs rm x_taped J49_c0_2 x_end J49_c0_2 x_bad x_badPlace x_fault x_faultPlace x_namePlace x_awayTold x_away x_coded x_statements x_isCrossing x_textKind x_askSecond x_redMany x_isOpen x_lastGreen x_greenTo x_isCycleGreen x_stillGreen x_rowMany x_fitMany x_fitRules x_fitGreen x_undoable x_newest x_seeded x_qCoded x_qWaits x_qOpened x_qBase x_qPiled x_qAnswer x_qIsNew x_octets)), ((rm 0), .inl (cy 0, 1600, .inl g_tape))] := hD
          refine lv_iload hx hb dX10_number_137 (lv_at hl 4 rfl) ?_
          refine lv_i2l (v := J49_l4.toInt64) hx hb dX10_number_139 rfl ?_
          refine lv_iload_n hx hb dX10_number_140 rfl (lv_at hl 1 rfl) ?_
          refine lv_i2l (v := p0.toInt64) hx hb dX10_number_141 rfl ?_
          refine lv_iload_n hx hb dX10_number_142 rfl (lv_at hl 2 rfl) ?_
          refine lv_i2l (v := p1.toInt64) hx hb dX10_number_143 rfl ?_
          refine k_ji hP hD hS hA [] [0, 1] (wr := [(a_this, .inr (10, mfs rm x_taped J49_c0_2 x_end J49_c0_2 x_bad x_badPlace x_fault x_faultPlace x_namePlace x_awayTold x_away x_coded x_statements x_isCrossing x_textKind x_askSecond x_redMany x_isOpen x_lastGreen x_greenTo x_isCycleGreen x_stillGreen x_rowMany x_fitMany x_fitRules x_fitGreen x_undoable x_newest x_seeded x_qCoded x_qWaits x_qOpened x_qBase x_qPiled x_qAnswer x_qIsNew x_octets)), ((rm 0), .inl (cy 0, 1600, .inl g_tape))]) rfl rfl (by decide) (by decide) (by decide) 0 0 (Nat.le_of_ble_eq_true rfl) (Nat.le_of_ble_eq_true rfl) (fun hPc hDc => k_runS (As := [.long J49_l4.toInt64, .long p0.toInt64, .long p1.toInt64]) (rest := []) C0 hZ hS hA (c_isIn l dC dI cy sq J49_l4.toInt64 p0.toInt64 p1.toInt64) mS_X10_318 hPc hDc hl rfl rfl (Nat.le_of_ble_eq_true rfl) ⟨(Nat.le_of_ble_eq_true rfl), (Nat.le_of_ble_eq_true rfl)⟩ ⟨(Nat.le_of_ble_eq_true rfl), (Nat.le_of_ble_eq_true rfl)⟩ dX10_number_144) (fun r32 u33 H locs hw hP hD hS => ?_)
          have hP : va_P (dC, dI) vwCl [(a_this, .inr (10, mfs rm x_taped J49_c0_2 x_end J49_c0_2 x_bad x_badPlace x_fault x_faultPlace x_namePlace x_awayTold x_away x_coded x_statements x_isCrossing x_textKind x_askSecond x_redMany x_isOpen x_lastGreen x_greenTo x_isCycleGreen x_stillGreen x_rowMany x_fitMany x_fitRules x_fitGreen x_undoable x_newest x_seeded x_qCoded x_qWaits x_qOpened x_qBase x_qPiled x_qAnswer x_qIsNew x_octets)), ((rm 0), .inl (cy 0, 1600, .inl g_tape))] H := hP
          have hD : va_D A [(a_this, .inr (10, mfs rm x_taped J49_c0_2 x_end J49_c0_2 x_bad x_badPlace x_fault x_faultPlace x_namePlace x_awayTold x_away x_coded x_statements x_isCrossing x_textKind x_askSecond x_redMany x_isOpen x_lastGreen x_greenTo x_isCycleGreen x_stillGreen x_rowMany x_fitMany x_fitRules x_fitGreen x_undoable x_newest x_seeded x_qCoded x_qWaits x_qOpened x_qBase x_qPiled x_qAnswer x_qIsNew x_octets)), ((rm 0), .inl (cy 0, 1600, .inl g_tape))] := hD
          have h34 := hw
          have h35 : ib r32 0 1 := by rw [h34]; exact k_isf_01 _ _ _
          refine lv_if_ne (tgt := 156) hx hb dX10_number_147 (by decide) (fun c36 => ?_) (fun c36 => ?_)
          · have h37 : ib r32 1 1 := ib_w 1 1 (ib_ne_lo 0 h35 (by decide) c36) (by decide)
            have h38 : ib J49_l3 0 1598 := ⟨(hJ49_l3).1, by have := (hJ49_l3).1; have := (hJ49_l3).2; have := hJ49_lin0; have := h31; have := (h18).1; have := (h18).2; have := hJ49_lin1; have := (h19).1; have := (h19).2; omega⟩
            have h39 : ib J49_c0_2 1 1599 := ⟨by have := (h18).1; have := (h18).2; have := hJ49_lin1; have := h31; have := (h38).1; have := (h38).2; have := hJ49_lin0; have := (h19).1; have := (h19).2; omega, (h18).2⟩
            refine lv_iload hx hb dX10_number_156 (lv_at hl 4 rfl) ?_
            subst hQ; exact k_iret hx hb hr hlk rfl ((J49_c0_2, J49_c0_2, x_bad, x_badPlace)) hS ⟨ib_w 0 1600 h39 (by decide), fun q => q, (by have := (h39).1; have := (h39).2; have := hJ49_lin1; have := h31; have := (h38).1; have := (h38).2; have := hJ49_lin0; have := (h19).1; have := (h19).2; omega), fun hq9 => (by have := (h39).1; have := (h39).2; have := hJ49_lin1; have := h31; have := (h38).1; have := (h38).2; have := hJ49_lin0; have := (h19).1; have := (h19).2; omega)⟩ hP hD (Nat.le_of_ble_eq_true rfl) (Nat.le_of_ble_eq_true rfl) dX10_number_158
          · have h40 := ib_eq h35 (ib_c 0 0 0 (by decide)) c36
            have h41 : ib r32 0 0 := ib_w 0 0 h40.1 (by decide)
            have h42 : ib J49_l3 0 1598 := ⟨(hJ49_l3).1, by have := (hJ49_l3).1; have := (hJ49_l3).2; have := hJ49_lin0; have := h31; have := (h18).1; have := (h18).2; have := hJ49_lin1; have := (h19).1; have := (h19).2; omega⟩
            have h43 : ib J49_c0_2 1 1599 := ⟨by have := (h18).1; have := (h18).2; have := hJ49_lin1; have := h31; have := (h42).1; have := (h42).2; have := hJ49_lin0; have := (h19).1; have := (h19).2; omega, (h18).2⟩
            have h44 : ib x_at 0 1598 := ⟨(h19).1, by have := (h19).1; have := (h19).2; have := hJ49_lin0; have := hJ49_lin1; have := (h43).1; have := (h43).2; have := h31; have := (h42).1; have := (h42).2; omega⟩
            refine lv_aload_n hx hb dX10_number_150 rfl (lv_at hl 0 rfl) ?_
            refine lv_iconst (v := 2) hx hb dX10_number_151 (by decide) ?_
            refine lv_iload_n hx hb dX10_number_152 rfl (lv_at hl 3 rfl) ?_
            refine k_jv hP hD hS hA [0] [1] (wr := [((rm 0), .inl (cy 0, 1600, .inl g_tape))]) rfl rfl (by decide) (by decide) (by decide) 0 0 (Nat.le_of_ble_eq_true rfl) (Nat.le_of_ble_eq_true rfl) (fun hPc hDc => k_runV (As := [.int 2, .int J49_l3]) (rest := []) C0 hZ hS hA (s_X10_fail_a0_2_f_bad_0_0 l dC dI cy sq a_this rm x_taped J49_c0_2 x_end J49_c0_2 x_bad x_badPlace x_fault x_faultPlace x_namePlace x_awayTold x_away x_coded x_statements x_isCrossing x_textKind x_askSecond x_redMany x_isOpen x_lastGreen x_greenTo x_isCycleGreen x_stillGreen x_rowMany x_fitMany x_fitRules x_fitGreen x_undoable x_newest x_seeded x_qCoded x_qWaits x_qOpened x_qBase x_qPiled x_qAnswer x_qIsNew x_octets J49_l3 (ib_w 0 0 hK49_x_bad (by decide))) mV_X10_308 hPc hDc rfl rfl rfl hl rfl rfl (Nat.le_of_ble_eq_true rfl) ⟨(Nat.le_of_ble_eq_true rfl), (Nat.le_of_ble_eq_true rfl)⟩ ⟨(Nat.le_of_ble_eq_true rfl), (Nat.le_of_ble_eq_true rfl)⟩ dX10_number_153) (fun u46 H locs hw hP hD hS => ?_)
            try dsimp only at hP hD hw
            have hP : va_P (dC, dI) vwCl [((rm 0), .inl (cy 0, 1600, .inl g_tape)), (a_this, .inr (10, mfs rm x_taped J49_c0_2 x_end J49_c0_2 2 J49_l3 x_fault x_faultPlace x_namePlace x_awayTold x_away x_coded x_statements x_isCrossing x_textKind x_askSecond x_redMany x_isOpen x_lastGreen x_greenTo x_isCycleGreen x_stillGreen x_rowMany x_fitMany x_fitRules x_fitGreen x_undoable x_newest x_seeded x_qCoded x_qWaits x_qOpened x_qBase x_qPiled x_qAnswer x_qIsNew x_octets))] H := hP
            have hD : va_D A [((rm 0), .inl (cy 0, 1600, .inl g_tape)), (a_this, .inr (10, mfs rm x_taped J49_c0_2 x_end J49_c0_2 2 J49_l3 x_fault x_faultPlace x_namePlace x_awayTold x_away x_coded x_statements x_isCrossing x_textKind x_askSecond x_redMany x_isOpen x_lastGreen x_greenTo x_isCycleGreen x_stillGreen x_rowMany x_fitMany x_fitRules x_fitGreen x_undoable x_newest x_seeded x_qCoded x_qWaits x_qOpened x_qBase x_qPiled x_qAnswer x_qIsNew x_octets))] := hD
            refine lv_iload hx hb dX10_number_156 (lv_at hl 4 rfl) ?_
            subst hQ; exact k_iret hx hb hr hlk rfl ((J49_c0_2, J49_c0_2, 2, J49_l3)) hS ⟨ib_w 0 1600 h43 (by decide), fun q => absurd q (by decide), (by have := (h43).1; have := (h43).2; have := hJ49_lin1; have := h31; have := (h42).1; have := (h42).2; have := hJ49_lin0; have := (h44).1; have := (h44).2; omega), fun q => absurd q (by decide)⟩ (hP.sub [1, 0] rfl) (hD.sub [1, 0] (by decide) rfl) (Nat.le_of_ble_eq_true rfl) (Nat.le_of_ble_eq_true rfl) dX10_number_158
        · have h47 : ib r22 1 1 := ib_w 1 1 (ib_ne_lo 0 h24 (by decide) c27) (by decide)
          have h48 : ib z20 48 57 := ib_w 48 57 (ib_two h21 (h25 (ib_nz h47 (by decide)))) (by decide)
          refine lv_aload_n hx hb dX10_number_75 rfl (lv_at hl 0 rfl) ?_
          refine k_get C0 fg_X10_285 hP 0 rfl rfl dX10_number_76 ?_
          refine lv_iload_n hx hb dX10_number_79 rfl (lv_at hl 3 rfl) ?_
          refine lv_isub hx hb dX10_number_80 ?_
          refine lv_topi (fun z49 ez49 => ?_)
          have h50 := ib_sub h18 hJ49_l3 (by decide)
          rw [← ez49] at h50
          have h51 : ib z49 (-1599) 1599 := ib_w (-1599) 1599 h50.1 (by decide)
          refine lv_iconst (v := 4) hx hb dX10_number_81 (by decide) ?_
          refine lv_icmp_ne (tgt := 96) hx hb dX10_number_82 (by decide) (fun c52 => ?_) (fun c52 => ?_)
          · skip
            refine lv_bipush (v := 10) hx hb dX10_number_96 (by decide) ?_
            refine lv_iload hx hb dX10_number_98 (lv_at hl 4 rfl) ?_
            refine lv_imul hx hb dX10_number_100 ?_
            refine lv_topi (fun z53 ez53 => ?_)
            refine lv_aload_n hx hb dX10_number_101 rfl (lv_at hl 0 rfl) ?_
            refine k_get C0 fg_X10_7 hP 0 rfl rfl dX10_number_102 ?_
            refine lv_aload_n hx hb dX10_number_105 rfl (lv_at hl 0 rfl) ?_
            refine k_get C0 fg_X10_285 hP 0 rfl rfl dX10_number_106 ?_
            refine va_iald hx hb C0.2.2.2.2.2.1 hP 1 0 rfl rfl (ib_in 1600 h18 (by decide)) dX10_number_109 ?_
            refine lv_topi (fun z54 ez54 => ?_)
            obtain rfl : z20 = z54 := ez20.trans ez54.symm
            refine lv_iadd hx hb dX10_number_110 ?_
            refine lv_topi (fun z55 ez55 => ?_)
            refine lv_bipush (v := 48) hx hb dX10_number_111 (by decide) ?_
            refine lv_isub hx hb dX10_number_113 ?_
            refine lv_topi (fun z56 ez56 => ?_)
            refine lv_istore (lv' := [(4, .int z56), (0, .ref a_this), (1, .int p0), (2, .int p1), (3, .int J49_l3)]) hx hb dX10_number_114 hl (by decide) rfl (fun ls hl => ?_)
            refine lv_aload_n hx hb dX10_number_116 rfl (lv_at hl 1 rfl) ?_
            refine lv_dup hx hb dX10_number_117 rfl ?_
            refine k_get C0 fg_X10_285 hP 0 rfl rfl dX10_number_118 ?_
            refine lv_iconst (v := 1) hx hb dX10_number_121 (by decide) ?_
            refine lv_iadd hx hb dX10_number_122 ?_
            refine lv_topi (fun z57 ez57 => ?_)
            have h58 := ib_add h18 (ib_c 1 1 1 (by decide)) (by decide)
            rw [← ez57] at h58
            have h59 : ib z57 1 1600 := ib_w 1 1600 h58.1 (by decide)
            refine k_put C0 fp_X10_285 hP hD hS 0 rfl rfl rfl (Nat.le_of_ble_eq_true rfl) dX10_number_123 (fun H locs hP hD hS => ?_)
            have hP : va_P (dC, dI) vwCl [(a_this, .inr (10, mfs rm x_taped z57 x_end x_ended x_bad x_badPlace x_fault x_faultPlace x_namePlace x_awayTold x_away x_coded x_statements x_isCrossing x_textKind x_askSecond x_redMany x_isOpen x_lastGreen x_greenTo x_isCycleGreen x_stillGreen x_rowMany x_fitMany x_fitRules x_fitGreen x_undoable x_newest x_seeded x_qCoded x_qWaits x_qOpened x_qBase x_qPiled x_qAnswer x_qIsNew x_octets)), ((rm 0), .inl (cy 0, 1600, .inl g_tape))] H := hP
            have hD : va_D A [(a_this, .inr (10, mfs rm x_taped z57 x_end x_ended x_bad x_badPlace x_fault x_faultPlace x_namePlace x_awayTold x_away x_coded x_statements x_isCrossing x_textKind x_askSecond x_redMany x_isOpen x_lastGreen x_greenTo x_isCycleGreen x_stillGreen x_rowMany x_fitMany x_fitRules x_fitGreen x_undoable x_newest x_seeded x_qCoded x_qWaits x_qOpened x_qBase x_qPiled x_qAnswer x_qIsNew x_octets)), ((rm 0), .inl (cy 0, 1600, .inl g_tape))] := hD
            refine lv_goto (tgt := 49) hx hb dX10_number_126 (by decide) ?_
            exact ih49 J49_l3 z57 z56 H locs ls (ib_w 0 1599 hJ49_l3 (by decide)) (ib_w 0 1600 h59 (by decide)) (ib_w 1 1600 hK49_x_end (by decide)) (ib_w 0 0 hK49_x_bad (by decide)) (by have := (hJ49_l3).1; have := (hJ49_l3).2; have := hJ49_lin0; have := (h19).1; have := (h19).2; have := hJ49_lin1; have := (h18).1; have := (h18).2; omega) (by have := (h59).1; have := (h59).2; have := h58.2; have : (1 : Int32).toInt = 1 := (by decide); have := (h18).1; have := (h18).2; have := hJ49_lin1; have := (h19).1; have := (h19).2; have := hJ49_lin0; have := (hJ49_l3).1; have := (hJ49_l3).2; omega) (Or.inl (by have q0 := h58.2; have q1 : (1 : Int32).toInt = 1 := (by decide); rcases hJ49_gh with q | q <;> first | omega | (have := congrArg Int32.toInt q.1; omega))) (by have := h58.2; have : (1 : Int32).toInt = 1 := (by decide); omega) hP hD hS (lv_sub hl [1, 2, 3, 4, 0] rfl)
          · have h60 := ib_eq h51 (ib_c 4 4 4 (by decide)) c52
            have h61 : ib z49 4 4 := ib_w 4 4 h60.1 (by decide)
            have h62 : ib J49_c0_2 4 1599 := ⟨by have := h50.2; have := (h61).1; have := (h61).2; have := (h18).1; have := (h18).2; have := (hJ49_l3).1; have := (hJ49_l3).2; omega, by have := h50.2; have := (h61).1; have := (h61).2; have := (h18).1; have := (h18).2; have := (hJ49_l3).1; have := (hJ49_l3).2; omega⟩
            have h63 : ib J49_l3 0 1595 := ⟨by have := h50.2; have := (h61).1; have := (h61).2; have := (h18).1; have := (h18).2; have := (hJ49_l3).1; have := (hJ49_l3).2; omega, by have := h50.2; have := (h61).1; have := (h61).2; have := (h18).1; have := (h18).2; have := (hJ49_l3).1; have := (hJ49_l3).2; omega⟩
            have h64 : ib x_at 0 1595 := ⟨(h19).1, by have := (h19).1; have := (h19).2; have := hJ49_lin0; have := hJ49_lin1; have := (h62).1; have := (h62).2; have := (h63).1; have := (h63).2; omega⟩
            refine lv_aload_n hx hb dX10_number_85 rfl (lv_at hl 0 rfl) ?_
            refine lv_iconst (v := 1) hx hb dX10_number_86 (by decide) ?_
            refine lv_aload_n hx hb dX10_number_87 rfl (lv_at hl 0 rfl) ?_
            refine k_get C0 fg_X10_285 hP 0 rfl rfl dX10_number_88 ?_
            refine k_jv hP hD hS hA [0] [1] (wr := [((rm 0), .inl (cy 0, 1600, .inl g_tape))]) rfl rfl (by decide) (by decide) (by decide) 0 0 (Nat.le_of_ble_eq_true rfl) (Nat.le_of_ble_eq_true rfl) (fun hPc hDc => k_runV (As := [.int 1, .int J49_c0_2]) (rest := []) C0 hZ hS hA (s_X10_fail_a0_1_f_bad_0_0 l dC dI cy sq a_this rm x_taped J49_c0_2 x_end x_ended x_bad x_badPlace x_fault x_faultPlace x_namePlace x_awayTold x_away x_coded x_statements x_isCrossing x_textKind x_askSecond x_redMany x_isOpen x_lastGreen x_greenTo x_isCycleGreen x_stillGreen x_rowMany x_fitMany x_fitRules x_fitGreen x_undoable x_newest x_seeded x_qCoded x_qWaits x_qOpened x_qBase x_qPiled x_qAnswer x_qIsNew x_octets J49_c0_2 (ib_w 0 0 hK49_x_bad (by decide))) mV_X10_308 hPc hDc rfl rfl rfl hl rfl rfl (Nat.le_of_ble_eq_true rfl) ⟨(Nat.le_of_ble_eq_true rfl), (Nat.le_of_ble_eq_true rfl)⟩ ⟨(Nat.le_of_ble_eq_true rfl), (Nat.le_of_ble_eq_true rfl)⟩ dX10_number_91) (fun u66 H locs hw hP hD hS => ?_)
            try dsimp only at hP hD hw
            have hP : va_P (dC, dI) vwCl [((rm 0), .inl (cy 0, 1600, .inl g_tape)), (a_this, .inr (10, mfs rm x_taped J49_c0_2 x_end x_ended 1 J49_c0_2 x_fault x_faultPlace x_namePlace x_awayTold x_away x_coded x_statements x_isCrossing x_textKind x_askSecond x_redMany x_isOpen x_lastGreen x_greenTo x_isCycleGreen x_stillGreen x_rowMany x_fitMany x_fitRules x_fitGreen x_undoable x_newest x_seeded x_qCoded x_qWaits x_qOpened x_qBase x_qPiled x_qAnswer x_qIsNew x_octets))] H := hP
            have hD : va_D A [((rm 0), .inl (cy 0, 1600, .inl g_tape)), (a_this, .inr (10, mfs rm x_taped J49_c0_2 x_end x_ended 1 J49_c0_2 x_fault x_faultPlace x_namePlace x_awayTold x_away x_coded x_statements x_isCrossing x_textKind x_askSecond x_redMany x_isOpen x_lastGreen x_greenTo x_isCycleGreen x_stillGreen x_rowMany x_fitMany x_fitRules x_fitGreen x_undoable x_newest x_seeded x_qCoded x_qWaits x_qOpened x_qBase x_qPiled x_qAnswer x_qIsNew x_octets))] := hD
            refine lv_iconst (v := 0) hx hb dX10_number_94 (by decide) ?_
            subst hQ; exact k_iret hx hb hr hlk rfl ((J49_c0_2, x_ended, 1, J49_c0_2)) hS ⟨ib_w 0 1600 h62 (by decide), fun q => absurd q (by decide), (by have := (h62).1; have := (h62).2; have := hJ49_lin1; have := (h64).1; have := (h64).2; have := hJ49_lin0; have := (h63).1; have := (h63).2; omega), fun q => absurd q (by decide)⟩ (hP.sub [1, 0] rfl) (hD.sub [1, 0] (by decide) rfl) (Nat.le_of_ble_eq_true rfl) (Nat.le_of_ble_eq_true rfl) dX10_number_95
  refine lv_aload_n hx hb dX10_number_0 rfl (lv_at hl 0 rfl) ?_
  refine k_get C0 fg_X10_279 hP 0 rfl rfl dX10_number_1 ?_
  refine lv_if_eq (tgt := 9) hx hb dX10_number_4 (by decide) (fun c67 => ?_) (fun c67 => ?_)
  · have h68 := ib_eq (ib_any x_bad) (ib_c 0 0 0 (by decide)) c67
    have h69 : ib x_bad 0 0 := ib_w 0 0 h68.1 (by decide)
    refine lv_aload_n hx hb dX10_number_9 rfl (lv_at hl 0 rfl) ?_
    refine k_ji hP hD hS hA [0, 1] [] (wr := []) rfl rfl (by decide) (by decide) (by decide) 0 0 (Nat.le_of_ble_eq_true rfl) (Nat.le_of_ble_eq_true rfl) (fun hPc hDc => k_runV (As := []) (rest := []) C0 hZ hS hA (s_X10_look l dC dI cy sq a_this rm x_taped x_at x_end x_ended x_bad x_badPlace x_fault x_faultPlace x_namePlace x_awayTold x_away x_coded x_statements x_isCrossing x_textKind x_askSecond x_redMany x_isOpen x_lastGreen x_greenTo x_isCycleGreen x_stillGreen x_rowMany x_fitMany x_fitRules x_fitGreen x_undoable x_newest x_seeded x_qCoded x_qWaits x_qOpened x_qBase x_qPiled x_qAnswer x_qIsNew x_octets g_tape (ib_w 0 1600 hx_at (by decide)) (ib_w 0 1600 hx_end (by decide)) hg_tape) mV_X10_291 hPc hDc rfl rfl rfl hl rfl rfl (Nat.le_of_ble_eq_true rfl) ⟨(Nat.le_of_ble_eq_true rfl), (Nat.le_of_ble_eq_true rfl)⟩ ⟨(Nat.le_of_ble_eq_true rfl), (Nat.le_of_ble_eq_true rfl)⟩ dX10_number_10) (fun r70 u71 H locs hw hP hD hS => ?_)
    obtain ⟨v72, ev72⟩ : ∃ z, z = u71 := ⟨_, rfl⟩; subst ev72
    try dsimp only at hP hD hw
    have hP : va_P (dC, dI) vwCl [(a_this, .inr (10, mfs rm x_taped v72 x_end x_ended x_bad x_badPlace x_fault x_faultPlace x_namePlace x_awayTold x_away x_coded x_statements x_isCrossing x_textKind x_askSecond x_redMany x_isOpen x_lastGreen x_greenTo x_isCycleGreen x_stillGreen x_rowMany x_fitMany x_fitRules x_fitGreen x_undoable x_newest x_seeded x_qCoded x_qWaits x_qOpened x_qBase x_qPiled x_qAnswer x_qIsNew x_octets)), ((rm 0), .inl (cy 0, 1600, .inl g_tape))] H := hP
    have hD : va_D A [(a_this, .inr (10, mfs rm x_taped v72 x_end x_ended x_bad x_badPlace x_fault x_faultPlace x_namePlace x_awayTold x_away x_coded x_statements x_isCrossing x_textKind x_askSecond x_redMany x_isOpen x_lastGreen x_greenTo x_isCycleGreen x_stillGreen x_rowMany x_fitMany x_fitRules x_fitGreen x_undoable x_newest x_seeded x_qCoded x_qWaits x_qOpened x_qBase x_qPiled x_qAnswer x_qIsNew x_octets)), ((rm 0), .inl (cy 0, 1600, .inl g_tape))] := hD
    obtain ⟨h73, h74, h75, h76, h77, h78, h79, h80, h81⟩ := hw
    refine k_ji hP hD hS hA [] [0, 1] (wr := [(a_this, .inr (10, mfs rm x_taped v72 x_end x_ended x_bad x_badPlace x_fault x_faultPlace x_namePlace x_awayTold x_away x_coded x_statements x_isCrossing x_textKind x_askSecond x_redMany x_isOpen x_lastGreen x_greenTo x_isCycleGreen x_stillGreen x_rowMany x_fitMany x_fitRules x_fitGreen x_undoable x_newest x_seeded x_qCoded x_qWaits x_qOpened x_qBase x_qPiled x_qAnswer x_qIsNew x_octets)), ((rm 0), .inl (cy 0, 1600, .inl g_tape))]) rfl rfl (by decide) (by decide) (by decide) 0 0 (Nat.le_of_ble_eq_true rfl) (Nat.le_of_ble_eq_true rfl) (fun hPc hDc => k_runS (As := [.int r70]) (rest := []) C0 hZ hS hA (s_X10_isDigit l dC dI cy sq r70 ) mS_X10_315 hPc hDc hl rfl rfl (Nat.le_of_ble_eq_true rfl) ⟨(Nat.le_of_ble_eq_true rfl), (Nat.le_of_ble_eq_true rfl)⟩ ⟨(Nat.le_of_ble_eq_true rfl), (Nat.le_of_ble_eq_true rfl)⟩ dX10_number_13) (fun r82 u83 H locs hw hP hD hS => ?_)
    try dsimp only at hP hD hw
    have hP : va_P (dC, dI) vwCl [(a_this, .inr (10, mfs rm x_taped v72 x_end x_ended x_bad x_badPlace x_fault x_faultPlace x_namePlace x_awayTold x_away x_coded x_statements x_isCrossing x_textKind x_askSecond x_redMany x_isOpen x_lastGreen x_greenTo x_isCycleGreen x_stillGreen x_rowMany x_fitMany x_fitRules x_fitGreen x_undoable x_newest x_seeded x_qCoded x_qWaits x_qOpened x_qBase x_qPiled x_qAnswer x_qIsNew x_octets)), ((rm 0), .inl (cy 0, 1600, .inl g_tape))] H := hP
    have hD : va_D A [(a_this, .inr (10, mfs rm x_taped v72 x_end x_ended x_bad x_badPlace x_fault x_faultPlace x_namePlace x_awayTold x_away x_coded x_statements x_isCrossing x_textKind x_askSecond x_redMany x_isOpen x_lastGreen x_greenTo x_isCycleGreen x_stillGreen x_rowMany x_fitMany x_fitRules x_fitGreen x_undoable x_newest x_seeded x_qCoded x_qWaits x_qOpened x_qBase x_qPiled x_qAnswer x_qIsNew x_octets)), ((rm 0), .inl (cy 0, 1600, .inl g_tape))] := hD
    obtain ⟨h84, h85, h86⟩ := hw
    refine lv_if_eq (tgt := 30) hx hb dX10_number_16 (by decide) (fun c87 => ?_) (fun c87 => ?_)
    · have h88 := ib_eq h84 (ib_c 0 0 0 (by decide)) c87
      have h89 : ib r82 0 0 := ib_w 0 0 h88.1 (by decide)
      refine lv_aload_n hx hb dX10_number_30 rfl (lv_at hl 0 rfl) ?_
      refine lv_iconst (v := 1) hx hb dX10_number_31 (by decide) ?_
      refine lv_aload_n hx hb dX10_number_32 rfl (lv_at hl 0 rfl) ?_
      refine k_get C0 fg_X10_285 hP 0 rfl rfl dX10_number_33 ?_
      refine k_jv hP hD hS hA [0] [1] (wr := [((rm 0), .inl (cy 0, 1600, .inl g_tape))]) rfl rfl (by decide) (by decide) (by decide) 0 0 (Nat.le_of_ble_eq_true rfl) (Nat.le_of_ble_eq_true rfl) (fun hPc hDc => k_runV (As := [.int 1, .int v72]) (rest := []) C0 hZ hS hA (s_X10_fail_a0_1_f_bad_0_0 l dC dI cy sq a_this rm x_taped v72 x_end x_ended x_bad x_badPlace x_fault x_faultPlace x_namePlace x_awayTold x_away x_coded x_statements x_isCrossing x_textKind x_askSecond x_redMany x_isOpen x_lastGreen x_greenTo x_isCycleGreen x_stillGreen x_rowMany x_fitMany x_fitRules x_fitGreen x_undoable x_newest x_seeded x_qCoded x_qWaits x_qOpened x_qBase x_qPiled x_qAnswer x_qIsNew x_octets v72 (ib_w 0 0 h69 (by decide))) mV_X10_308 hPc hDc rfl rfl rfl hl rfl rfl (Nat.le_of_ble_eq_true rfl) ⟨(Nat.le_of_ble_eq_true rfl), (Nat.le_of_ble_eq_true rfl)⟩ ⟨(Nat.le_of_ble_eq_true rfl), (Nat.le_of_ble_eq_true rfl)⟩ dX10_number_36) (fun u91 H locs hw hP hD hS => ?_)
      try dsimp only at hP hD hw
      have hP : va_P (dC, dI) vwCl [((rm 0), .inl (cy 0, 1600, .inl g_tape)), (a_this, .inr (10, mfs rm x_taped v72 x_end x_ended 1 v72 x_fault x_faultPlace x_namePlace x_awayTold x_away x_coded x_statements x_isCrossing x_textKind x_askSecond x_redMany x_isOpen x_lastGreen x_greenTo x_isCycleGreen x_stillGreen x_rowMany x_fitMany x_fitRules x_fitGreen x_undoable x_newest x_seeded x_qCoded x_qWaits x_qOpened x_qBase x_qPiled x_qAnswer x_qIsNew x_octets))] H := hP
      have hD : va_D A [((rm 0), .inl (cy 0, 1600, .inl g_tape)), (a_this, .inr (10, mfs rm x_taped v72 x_end x_ended 1 v72 x_fault x_faultPlace x_namePlace x_awayTold x_away x_coded x_statements x_isCrossing x_textKind x_askSecond x_redMany x_isOpen x_lastGreen x_greenTo x_isCycleGreen x_stillGreen x_rowMany x_fitMany x_fitRules x_fitGreen x_undoable x_newest x_seeded x_qCoded x_qWaits x_qOpened x_qBase x_qPiled x_qAnswer x_qIsNew x_octets))] := hD
      refine lv_iconst (v := 0) hx hb dX10_number_39 (by decide) ?_
      subst hQ; exact k_iret hx hb hr hlk rfl ((v72, x_ended, 1, v72)) hS ⟨ib_w 0 1600 h73 (by decide), fun q => absurd q (by decide), (by have := (h73).1; have := (h73).2; have := h78; have := (hx_at).1; have := (hx_at).2; omega), fun q => absurd q (by decide)⟩ (hP.sub [1, 0] rfl) (hD.sub [1, 0] (by decide) rfl) (Nat.le_of_ble_eq_true rfl) (Nat.le_of_ble_eq_true rfl) dX10_number_40
    · have h92 : ib r82 1 1 := ib_w 1 1 (ib_ne_lo 0 h84 (by decide) c87) (by decide)
      have h93 : ib r70 48 57 := ib_w 48 57 (ib_two h74 (h85 (ib_nz h92 (by decide)))) (by decide)
      have h94 : ib v72 0 1599 := ib_w 0 1599 (ib_two h73 (h75 (ib_nc (-1) h93 (by decide)))) (by decide)
      have h95 : ib x_at 0 1599 := ib_w 0 1599 (ib_two hx_at (h76 (ib_nc (-1) h93 (by decide)))) (by decide)
      have h96 : ib x_end 1 1600 := ib_w 1 1600 (ib_two hx_end (h77 (ib_nc (-1) h93 (by decide)))) (by decide)
      refine lv_aload_n hx hb dX10_number_19 rfl (lv_at hl 0 rfl) ?_
      refine k_get C0 fg_X10_285 hP 0 rfl rfl dX10_number_20 ?_
      refine lv_aload_n hx hb dX10_number_23 rfl (lv_at hl 0 rfl) ?_
      refine k_get C0 fg_X10_299 hP 0 rfl rfl dX10_number_24 ?_
      refine lv_icmp_ne (tgt := 41) hx hb dX10_number_27 (by decide) (fun c97 => ?_) (fun c97 => ?_)
      · skip
        refine lv_aload_n hx hb dX10_number_41 rfl (lv_at hl 0 rfl) ?_
        refine k_get C0 fg_X10_285 hP 0 rfl rfl dX10_number_42 ?_
        refine lv_istore_n (lv' := [(3, .int v72), (0, .ref a_this), (1, .int p0), (2, .int p1)]) hx hb dX10_number_45 rfl hl (by decide) rfl (fun ls hl => ?_)
        refine lv_iconst (v := 0) hx hb dX10_number_46 (by decide) ?_
        refine lv_istore (lv' := [(4, .int 0), (3, .int v72), (0, .ref a_this), (1, .int p0), (2, .int p1)]) hx hb dX10_number_47 hl (by decide) rfl (fun ls hl => ?_)
        exact jn49 1602 v72 v72 0 H locs ls (ib_w 0 1599 h94 (by decide)) (ib_w 0 1600 h94 (by decide)) (ib_w 1 1600 h96 (by decide)) (ib_w 0 0 h69 (by decide)) (by have := (h94).1; have := (h94).2; have := h78; have := (h95).1; have := (h95).2; omega) (by have := (h94).1; have := (h94).2; have := h78; have := (h95).1; have := (h95).2; omega) (Or.inr ⟨rfl, by rw [(h79 (ib_nc (-1) h93 (by decide))).1]; exact ib_w 48 57 h93 (by decide), (h79 (ib_nc (-1) h93 (by decide))).2⟩) (by have := h94; unfold ib at this; omega) hP hD hS (lv_sub hl [2, 3, 4, 1, 0] rfl)
      · have h98 := ib_eq h94 (ib_any x_ended) c97
        have h99 : ib x_ended 0 1599 := ib_w 0 1599 h98.2 (by decide)
        refine lv_aload_n hx hb dX10_number_30 rfl (lv_at hl 0 rfl) ?_
        refine lv_iconst (v := 1) hx hb dX10_number_31 (by decide) ?_
        refine lv_aload_n hx hb dX10_number_32 rfl (lv_at hl 0 rfl) ?_
        refine k_get C0 fg_X10_285 hP 0 rfl rfl dX10_number_33 ?_
        refine k_jv hP hD hS hA [0] [1] (wr := [((rm 0), .inl (cy 0, 1600, .inl g_tape))]) rfl rfl (by decide) (by decide) (by decide) 0 0 (Nat.le_of_ble_eq_true rfl) (Nat.le_of_ble_eq_true rfl) (fun hPc hDc => k_runV (As := [.int 1, .int v72]) (rest := []) C0 hZ hS hA (s_X10_fail_a0_1_f_bad_0_0 l dC dI cy sq a_this rm x_taped v72 x_end x_ended x_bad x_badPlace x_fault x_faultPlace x_namePlace x_awayTold x_away x_coded x_statements x_isCrossing x_textKind x_askSecond x_redMany x_isOpen x_lastGreen x_greenTo x_isCycleGreen x_stillGreen x_rowMany x_fitMany x_fitRules x_fitGreen x_undoable x_newest x_seeded x_qCoded x_qWaits x_qOpened x_qBase x_qPiled x_qAnswer x_qIsNew x_octets v72 (ib_w 0 0 h69 (by decide))) mV_X10_308 hPc hDc rfl rfl rfl hl rfl rfl (Nat.le_of_ble_eq_true rfl) ⟨(Nat.le_of_ble_eq_true rfl), (Nat.le_of_ble_eq_true rfl)⟩ ⟨(Nat.le_of_ble_eq_true rfl), (Nat.le_of_ble_eq_true rfl)⟩ dX10_number_36) (fun u101 H locs hw hP hD hS => ?_)
        try dsimp only at hP hD hw
        have hP : va_P (dC, dI) vwCl [((rm 0), .inl (cy 0, 1600, .inl g_tape)), (a_this, .inr (10, mfs rm x_taped v72 x_end x_ended 1 v72 x_fault x_faultPlace x_namePlace x_awayTold x_away x_coded x_statements x_isCrossing x_textKind x_askSecond x_redMany x_isOpen x_lastGreen x_greenTo x_isCycleGreen x_stillGreen x_rowMany x_fitMany x_fitRules x_fitGreen x_undoable x_newest x_seeded x_qCoded x_qWaits x_qOpened x_qBase x_qPiled x_qAnswer x_qIsNew x_octets))] H := hP
        have hD : va_D A [((rm 0), .inl (cy 0, 1600, .inl g_tape)), (a_this, .inr (10, mfs rm x_taped v72 x_end x_ended 1 v72 x_fault x_faultPlace x_namePlace x_awayTold x_away x_coded x_statements x_isCrossing x_textKind x_askSecond x_redMany x_isOpen x_lastGreen x_greenTo x_isCycleGreen x_stillGreen x_rowMany x_fitMany x_fitRules x_fitGreen x_undoable x_newest x_seeded x_qCoded x_qWaits x_qOpened x_qBase x_qPiled x_qAnswer x_qIsNew x_octets))] := hD
        refine lv_iconst (v := 0) hx hb dX10_number_39 (by decide) ?_
        subst hQ; exact k_iret hx hb hr hlk rfl ((v72, x_ended, 1, v72)) hS ⟨ib_w 0 1600 h94 (by decide), fun q => absurd q (by decide), (by have := (h94).1; have := (h94).2; have := h78; have := (h95).1; have := (h95).2; omega), fun q => absurd q (by decide)⟩ (hP.sub [1, 0] rfl) (hD.sub [1, 0] (by decide) rfl) (Nat.le_of_ble_eq_true rfl) (Nat.le_of_ble_eq_true rfl) dX10_number_40
  · skip
    refine lv_iconst (v := 0) hx hb dX10_number_7 (by decide) ?_
    subst hQ; exact k_iret hx hb hr hlk rfl ((x_at, x_ended, x_bad, x_badPlace)) hS ⟨ib_w 0 1600 hx_at (by decide), fun q => q, (by have := (hx_at).1; have := (hx_at).2; omega), fun q => absurd q c67⟩ hP hD (Nat.le_of_ble_eq_true rfl) (Nat.le_of_ble_eq_true rfl) dX10_number_8
set_option maxHeartbeats 4000000 in
set_option maxRecDepth 100000 in
theorem s_X10_octet (l : Launch) (dC : Nat → ClassId) (dI : Nat → Nat → Nat) (cy : Nat → ClassId) (sq : Nat → Nat) (a_this : Nat) (rm : Nat → Nat) (x_taped : Int32) (x_at : Int32) (x_end : Int32) (x_ended : Int32) (x_bad : Int32) (x_badPlace : Int32) (x_fault : Int32) (x_faultPlace : Int32) (x_namePlace : Int32) (x_awayTold : Int32) (x_away : Int32) (x_coded : Int32) (x_statements : Int32) (x_isCrossing : Int32) (x_textKind : Int32) (x_askSecond : Int32) (x_redMany : Int32) (x_isOpen : Int32) (x_lastGreen : Int32) (x_greenTo : Int32) (x_isCycleGreen : Int32) (x_stillGreen : Int32) (x_rowMany : Int32) (x_fitMany : Int32) (x_fitRules : Int32) (x_fitGreen : Int32) (x_undoable : Int32) (x_newest : Int32) (x_seeded : Int64) (x_qCoded : Int32) (x_qWaits : Int32) (x_qOpened : Int32) (x_qBase : Int32) (x_qPiled : Int32) (x_qAnswer : Int64) (x_qIsNew : Int32) (x_octets : Int32) (g_octet : Nat → Int32) (p0 : Int32) (hx_octets : ib x_octets 0 11) : k_Met l yX10_octet cX10_octet 2 (some .int) { frames := 0, cells := 0, slots := 0, locals := 0 } dC dI cy sq [.ref a_this, .int p0] [(a_this, .inr (10, mfs rm x_taped x_at x_end x_ended x_bad x_badPlace x_fault x_faultPlace x_namePlace x_awayTold x_away x_coded x_statements x_isCrossing x_textKind x_askSecond x_redMany x_isOpen x_lastGreen x_greenTo x_isCycleGreen x_stillGreen x_rowMany x_fitMany x_fitRules x_fitGreen x_undoable x_newest x_seeded x_qCoded x_qWaits x_qOpened x_qBase x_qPiled x_qAnswer x_qIsNew x_octets)), ((rm 120), .inl (cy 0, 11, .inl g_octet))] (k_Qi dC dI (fun (r : Int32) (_ : Unit) => True) (fun _ : Unit => [(a_this, .inr (10, mfs rm x_taped x_at x_end x_ended x_bad x_badPlace x_fault x_faultPlace x_namePlace x_awayTold x_away x_coded x_statements x_isCrossing x_textKind x_askSecond x_redMany x_isOpen x_lastGreen x_greenTo x_isCycleGreen x_stillGreen x_rowMany x_fitMany x_fitRules x_fitGreen x_undoable x_newest x_seeded x_qCoded x_qWaits x_qOpened x_qBase x_qPiled x_qAnswer x_qIsNew x_octets)), ((rm 120), .inl (cy 0, 11, .inl g_octet))])) := by
  refine k_ofW2 (by decide +kernel) (Nat.le_of_ble_eq_true rfl) ?_
  intro p e s m below meth c A ls H locs args Q hQ C0 hZ hr hlk hin hP hD hA hS hl
  have C0 : k_cx p s m args c cX10_octet 2 RX10 dC dI cy sq := C0
  have hx := C0.1
  have hb := C0.2.1
  have hl : lv_has ls 2 [(0, .ref a_this), (1, .int p0)] := hl
  have jn21 : ∀  (H : Heap) (locs : List Loc) (ls : Array Slot), va_P (dC, dI) vwCl [(a_this, .inr (10, mfs rm x_taped x_at x_end x_ended x_bad x_badPlace x_fault x_faultPlace x_namePlace x_awayTold x_away x_coded x_statements x_isCrossing x_textKind x_askSecond x_redMany x_isOpen x_lastGreen x_greenTo x_isCycleGreen x_stillGreen x_rowMany x_fitMany x_fitRules x_fitGreen x_undoable x_newest x_seeded x_qCoded x_qWaits x_qOpened x_qBase x_qPiled x_qAnswer x_qIsNew x_octets)), ((rm 120), .inl (cy 0, 11, .inl g_octet))] H → va_D A [(a_this, .inr (10, mfs rm x_taped x_at x_end x_ended x_bad x_badPlace x_fault x_faultPlace x_namePlace x_awayTold x_away x_coded x_statements x_isCrossing x_textKind x_askSecond x_redMany x_isOpen x_lastGreen x_greenTo x_isCycleGreen x_stillGreen x_rowMany x_fitMany x_fitRules x_fitGreen x_undoable x_newest x_seeded x_qCoded x_qWaits x_qOpened x_qBase x_qPiled x_qAnswer x_qIsNew x_octets)), ((rm 120), .inl (cy 0, 11, .inl g_octet))] → va_S A s.heap H locs → lv_has ls 2 [(0, .ref a_this), (1, .int p0)] → W p l e { frames := 0, cells := 0, slots := 0, locals := 0 } s m args below meth c H locs 0 0 Q (F0 m 21 ls []) := by
    intro H locs ls hP hD hS hl
    refine lv_iconst (v := (-1)) hx hb dX10_octet_21 (by decide) ?_
    subst hQ; exact k_iret hx hb hr hlk rfl () hS True.intro hP hD (Nat.le_of_ble_eq_true rfl) (Nat.le_of_ble_eq_true rfl) dX10_octet_22
  refine lv_iload_n hx hb dX10_octet_0 rfl (lv_at hl 1 rfl) ?_
  refine lv_if_lt (tgt := 21) hx hb dX10_octet_1 (by decide) (fun c1 => ?_) (fun c1 => ?_)
  · have h2 := ib_lt (ib_any p0) (ib_c 0 0 0 (by decide)) c1
    have h3 : ib p0 (-2147483648) (-1) := ib_w (-2147483648) (-1) h2.1 (by decide)
    exact jn21  H locs ls  hP hD hS (lv_sub hl [0, 1] rfl)
  · have h4 := ib_nlt (ib_any p0) (ib_c 0 0 0 (by decide)) c1
    have h5 : ib p0 0 2147483647 := ib_w 0 2147483647 h4.1 (by decide)
    refine lv_iload_n hx hb dX10_octet_4 rfl (lv_at hl 1 rfl) ?_
    refine lv_aload_n hx hb dX10_octet_5 rfl (lv_at hl 0 rfl) ?_
    refine k_get C0 fg_X10_699 hP 0 rfl rfl dX10_octet_6 ?_
    refine lv_icmp_ge (tgt := 21) hx hb dX10_octet_9 (by decide) (fun c6 => ?_) (fun c6 => ?_)
    · have h7 := ib_le hx_octets h5 c6
      exact jn21  H locs ls  hP hD hS (lv_sub hl [0, 1] rfl)
    · have h8 := ib_nle hx_octets h5 c6
      have h9 : ib x_octets 1 11 := ib_w 1 11 h8.1 (by decide)
      have h10 : ib p0 0 10 := ib_w 0 10 h8.2 (by decide)
      refine lv_aload_n hx hb dX10_octet_12 rfl (lv_at hl 0 rfl) ?_
      refine k_get C0 fg_X10_273 hP 0 rfl rfl dX10_octet_13 ?_
      refine lv_iload_n hx hb dX10_octet_16 rfl (lv_at hl 1 rfl) ?_
      refine va_iald hx hb C0.2.2.2.2.2.1 hP 1 0 rfl rfl (ib_in 11 h10 (by decide)) dX10_octet_17 ?_
      refine lv_topi (fun z11 ez11 => ?_)
      refine lv_goto (tgt := 22) hx hb dX10_octet_18 (by decide) ?_
      subst hQ; exact k_iret hx hb hr hlk rfl () hS True.intro hP hD (Nat.le_of_ble_eq_true rfl) (Nat.le_of_ble_eq_true rfl) dX10_octet_22
set_option maxHeartbeats 4000000 in
set_option maxRecDepth 100000 in
theorem s_X10_on (l : Launch) (dC : Nat → ClassId) (dI : Nat → Nat → Nat) (cy : Nat → ClassId) (sq : Nat → Nat) (a_this : Nat) (rm : Nat → Nat) (x_taped : Int32) (x_at : Int32) (x_end : Int32) (x_ended : Int32) (x_bad : Int32) (x_badPlace : Int32) (x_fault : Int32) (x_faultPlace : Int32) (x_namePlace : Int32) (x_awayTold : Int32) (x_away : Int32) (x_coded : Int32) (x_statements : Int32) (x_isCrossing : Int32) (x_textKind : Int32) (x_askSecond : Int32) (x_redMany : Int32) (x_isOpen : Int32) (x_lastGreen : Int32) (x_greenTo : Int32) (x_isCycleGreen : Int32) (x_stillGreen : Int32) (x_rowMany : Int32) (x_fitMany : Int32) (x_fitRules : Int32) (x_fitGreen : Int32) (x_undoable : Int32) (x_newest : Int32) (x_seeded : Int64) (x_qCoded : Int32) (x_qWaits : Int32) (x_qOpened : Int32) (x_qBase : Int32) (x_qPiled : Int32) (x_qAnswer : Int64) (x_qIsNew : Int32) (x_octets : Int32) (g_tape : Nat → Int32) (g_refused : Nat → Int32) (g_many : Nat → Int32) (g_bar : Nat → Int32) (g_now : Nat → Int32) (hx_taped : ib x_taped 0 1600) (hx_isCrossing : ib x_isCrossing 0 1) (hx_undoable : ib x_undoable 0 20) (hg_tape : ia g_tape 1600 0 255) (hg_many_2 : ib (g_many 2) 0 6) (hg_bar_4 : ib (g_bar 4) 0 120) (hc_cr : ¬ x_isCrossing = 0 → ib (g_bar 4) 10 120) : k_Met l yX10_on cX10_on 3 (some .boolean) { frames := 3, cells := 0, slots := 0, locals := 69 } dC dI cy sq [.ref a_this] [(a_this, .inr (10, mfs rm x_taped x_at x_end x_ended x_bad x_badPlace x_fault x_faultPlace x_namePlace x_awayTold x_away x_coded x_statements x_isCrossing x_textKind x_askSecond x_redMany x_isOpen x_lastGreen x_greenTo x_isCycleGreen x_stillGreen x_rowMany x_fitMany x_fitRules x_fitGreen x_undoable x_newest x_seeded x_qCoded x_qWaits x_qOpened x_qBase x_qPiled x_qAnswer x_qIsNew x_octets)), ((rm 41), .inl (cy 0, 4, .inl g_many)), ((rm 0), .inl (cy 0, 1600, .inl g_tape)), ((rm 43), .inl (cy 0, 8, .inl g_bar)), ((rm 56), .inl (cy 0, 9, .inl g_now)), ((rm 9), .inl (cy 0, 6, .inl g_refused))] (k_Qi dC dI (fun (r : Int32) (u : Int32 × (Nat → Int32) × (Nat → Int32)) => match u with | (n0, n1, n2) => ib n0 0 20 ∧ ib r 0 1 ∧ (¬ r = 0 → ib n0 0 0) ∧ (¬ r = 0 → ib (g_bar 4) 10 120) ∧ (¬ r = 0 → ib x_taped 5 11) ∧ (¬ r = 0 → ib x_isCrossing 1 1)) (fun u : Int32 × (Nat → Int32) × (Nat → Int32) => match u with | (n0, n1, n2) => [(a_this, .inr (10, mfs rm 0 x_at x_end x_ended x_bad x_badPlace x_fault x_faultPlace x_namePlace x_awayTold x_away x_coded x_statements x_isCrossing x_textKind x_askSecond x_redMany x_isOpen x_lastGreen x_greenTo x_isCycleGreen x_stillGreen x_rowMany x_fitMany x_fitRules x_fitGreen n0 x_newest x_seeded x_qCoded x_qWaits x_qOpened x_qBase x_qPiled x_qAnswer x_qIsNew x_octets)), ((rm 41), .inl (cy 0, 4, .inl g_many)), ((rm 0), .inl (cy 0, 1600, .inl g_tape)), ((rm 43), .inl (cy 0, 8, .inl g_bar)), ((rm 56), .inl (cy 0, 9, .inl n1)), ((rm 9), .inl (cy 0, 6, .inl n2))])) := by
  refine k_ofW2 (by decide +kernel) (Nat.le_of_ble_eq_true rfl) ?_
  intro p e s m below meth c A ls H locs args Q hQ C0 hZ hr hlk hin hP hD hA hS hl
  have C0 : k_cx p s m args c cX10_on 3 RX10 dC dI cy sq := C0
  have hx := C0.1
  have hb := C0.2.1
  have hl : lv_has ls 3 [(0, .ref a_this)] := hl
  have jn79 : ∀ (n : Nat) (J79_a4 : Nat → Int32) (J79_l2 : Int32) (H : Heap) (locs : List Loc) (ls : Array Slot), ib x_taped 5 11 → ib x_isCrossing 1 1 → ib (g_bar 4) 10 120 → ib J79_l2 0 6 → 7 ≤ J79_l2.toInt + (n : Int) → va_P (dC, dI) vwCl [(a_this, .inr (10, mfs rm 0 x_at x_end x_ended x_bad x_badPlace x_fault x_faultPlace x_namePlace x_awayTold x_away x_coded x_statements x_isCrossing x_textKind x_askSecond x_redMany x_isOpen x_lastGreen x_greenTo x_isCycleGreen x_stillGreen x_rowMany x_fitMany x_fitRules x_fitGreen x_undoable x_newest x_seeded x_qCoded x_qWaits x_qOpened x_qBase x_qPiled x_qAnswer x_qIsNew x_octets)), ((rm 41), .inl (cy 0, 4, .inl g_many)), ((rm 0), .inl (cy 0, 1600, .inl g_tape)), ((rm 43), .inl (cy 0, 8, .inl g_bar)), ((rm 56), .inl (cy 0, 9, .inl J79_a4)), ((rm 9), .inl (cy 0, 6, .inl g_refused))] H → va_D A [(a_this, .inr (10, mfs rm 0 x_at x_end x_ended x_bad x_badPlace x_fault x_faultPlace x_namePlace x_awayTold x_away x_coded x_statements x_isCrossing x_textKind x_askSecond x_redMany x_isOpen x_lastGreen x_greenTo x_isCycleGreen x_stillGreen x_rowMany x_fitMany x_fitRules x_fitGreen x_undoable x_newest x_seeded x_qCoded x_qWaits x_qOpened x_qBase x_qPiled x_qAnswer x_qIsNew x_octets)), ((rm 41), .inl (cy 0, 4, .inl g_many)), ((rm 0), .inl (cy 0, 1600, .inl g_tape)), ((rm 43), .inl (cy 0, 8, .inl g_bar)), ((rm 56), .inl (cy 0, 9, .inl J79_a4)), ((rm 9), .inl (cy 0, 6, .inl g_refused))] → va_S A s.heap H locs → lv_has ls 3 [(0, .ref a_this), (1, .int x_taped), (2, .int J79_l2)] → W p l e { frames := 3, cells := 0, slots := 0, locals := 69 } s m args below meth c H locs 0 0 Q (F0 m 79 ls []) := by
    intro n
    induction n with
    | zero =>
      intro J79_a4 J79_l2 H locs ls hK79_x_taped hK79_x_isCrossing hJ79_a3_4 hJ79_l2 hm
      exact absurd hm (by have := hJ79_l2; unfold ib at this; omega)
    | succ n ih =>
      intro J79_a4 J79_l2 H locs ls hK79_x_taped hK79_x_isCrossing hJ79_a3_4 hJ79_l2 hm79 hP hD hS hl
      have ih79 := ih
      refine lv_iload_n hx hb dX10_on_79 rfl (lv_at hl 2 rfl) ?_
      refine lv_aload_n hx hb dX10_on_80 rfl (lv_at hl 0 rfl) ?_
      refine k_ji hP hD hS hA [0, 1] [2, 3, 4, 5] (wr := [((rm 0), .inl (cy 0, 1600, .inl g_tape)), ((rm 43), .inl (cy 0, 8, .inl g_bar)), ((rm 56), .inl (cy 0, 9, .inl J79_a4)), ((rm 9), .inl (cy 0, 6, .inl g_refused))]) rfl rfl (by decide) (by decide) (by decide) 0 0 (Nat.le_of_ble_eq_true rfl) (Nat.le_of_ble_eq_true rfl) (fun hPc hDc => k_runV (As := []) (rest := [.int J79_l2]) C0 hZ hS hA (s_X10_kindMany l dC dI cy sq a_this rm 0 x_at x_end x_ended x_bad x_badPlace x_fault x_faultPlace x_namePlace x_awayTold x_away x_coded x_statements x_isCrossing x_textKind x_askSecond x_redMany x_isOpen x_lastGreen x_greenTo x_isCycleGreen x_stillGreen x_rowMany x_fitMany x_fitRules x_fitGreen x_undoable x_newest x_seeded x_qCoded x_qWaits x_qOpened x_qBase x_qPiled x_qAnswer x_qIsNew x_octets g_many ) mV_X10_430 hPc hDc rfl rfl rfl hl rfl rfl (Nat.le_of_ble_eq_true rfl) ⟨(Nat.le_of_ble_eq_true rfl), (Nat.le_of_ble_eq_true rfl)⟩ ⟨(Nat.le_of_ble_eq_true rfl), (Nat.le_of_ble_eq_true rfl)⟩ dX10_on_81) (fun r1 u2 H locs hw hP hD hS => ?_)
      try dsimp only at hP hD hw
      have hP : va_P (dC, dI) vwCl [((rm 0), .inl (cy 0, 1600, .inl g_tape)), ((rm 43), .inl (cy 0, 8, .inl g_bar)), ((rm 56), .inl (cy 0, 9, .inl J79_a4)), ((rm 9), .inl (cy 0, 6, .inl g_refused)), (a_this, .inr (10, mfs rm 0 x_at x_end x_ended x_bad x_badPlace x_fault x_faultPlace x_namePlace x_awayTold x_away x_coded x_statements x_isCrossing x_textKind x_askSecond x_redMany x_isOpen x_lastGreen x_greenTo x_isCycleGreen x_stillGreen x_rowMany x_fitMany x_fitRules x_fitGreen x_undoable x_newest x_seeded x_qCoded x_qWaits x_qOpened x_qBase x_qPiled x_qAnswer x_qIsNew x_octets)), ((rm 41), .inl (cy 0, 4, .inl g_many))] H := hP
      have hD : va_D A [((rm 0), .inl (cy 0, 1600, .inl g_tape)), ((rm 43), .inl (cy 0, 8, .inl g_bar)), ((rm 56), .inl (cy 0, 9, .inl J79_a4)), ((rm 9), .inl (cy 0, 6, .inl g_refused)), (a_this, .inr (10, mfs rm 0 x_at x_end x_ended x_bad x_badPlace x_fault x_faultPlace x_namePlace x_awayTold x_away x_coded x_statements x_isCrossing x_textKind x_askSecond x_redMany x_isOpen x_lastGreen x_greenTo x_isCycleGreen x_stillGreen x_rowMany x_fitMany x_fitRules x_fitGreen x_undoable x_newest x_seeded x_qCoded x_qWaits x_qOpened x_qBase x_qPiled x_qAnswer x_qIsNew x_octets)), ((rm 41), .inl (cy 0, 4, .inl g_many))] := hD
      have h3 := hw
      subst h3
      refine lv_icmp_ge (tgt := 109) hx hb dX10_on_84 (by decide) (fun c4 => ?_) (fun c4 => ?_)
      · have h5 := ib_le hg_many_2 hJ79_l2 c4
        refine lv_aload_n hx hb dX10_on_109 rfl (lv_at hl 0 rfl) ?_
        refine lv_iconst (v := 0) hx hb dX10_on_110 (by decide) ?_
        refine k_put C0 fp_X10_424 hP hD hS 4 rfl rfl rfl (Nat.le_of_ble_eq_true rfl) dX10_on_111 (fun H locs hP hD hS => ?_)
        have hP : va_P (dC, dI) vwCl [((rm 0), .inl (cy 0, 1600, .inl g_tape)), ((rm 43), .inl (cy 0, 8, .inl g_bar)), ((rm 56), .inl (cy 0, 9, .inl J79_a4)), ((rm 9), .inl (cy 0, 6, .inl g_refused)), (a_this, .inr (10, mfs rm 0 x_at x_end x_ended x_bad x_badPlace x_fault x_faultPlace x_namePlace x_awayTold x_away x_coded x_statements x_isCrossing x_textKind x_askSecond x_redMany x_isOpen x_lastGreen x_greenTo x_isCycleGreen x_stillGreen x_rowMany x_fitMany x_fitRules x_fitGreen 0 x_newest x_seeded x_qCoded x_qWaits x_qOpened x_qBase x_qPiled x_qAnswer x_qIsNew x_octets)), ((rm 41), .inl (cy 0, 4, .inl g_many))] H := hP
        have hD : va_D A [((rm 0), .inl (cy 0, 1600, .inl g_tape)), ((rm 43), .inl (cy 0, 8, .inl g_bar)), ((rm 56), .inl (cy 0, 9, .inl J79_a4)), ((rm 9), .inl (cy 0, 6, .inl g_refused)), (a_this, .inr (10, mfs rm 0 x_at x_end x_ended x_bad x_badPlace x_fault x_faultPlace x_namePlace x_awayTold x_away x_coded x_statements x_isCrossing x_textKind x_askSecond x_redMany x_isOpen x_lastGreen x_greenTo x_isCycleGreen x_stillGreen x_rowMany x_fitMany x_fitRules x_fitGreen 0 x_newest x_seeded x_qCoded x_qWaits x_qOpened x_qBase x_qPiled x_qAnswer x_qIsNew x_octets)), ((rm 41), .inl (cy 0, 4, .inl g_many))] := hD
        refine lv_iconst (v := 1) hx hb dX10_on_114 (by decide) ?_
        subst hQ; exact k_iret hx hb hr hlk (k_nb 1 (by decide)) ((0, J79_a4, g_refused)) hS ⟨ib_w 0 20 (ib_c 0 0 0 (by decide)) (by decide), ib_w 0 1 (ib_c 1 1 1 (by decide)) (by decide), fun _ => ib_w 0 0 (ib_c 0 0 0 (by decide)) (by decide), fun _ => ib_w 10 120 hJ79_a3_4 (by decide), fun _ => ib_w 5 11 hK79_x_taped (by decide), fun _ => ib_w 1 1 hK79_x_isCrossing (by decide)⟩ (hP.sub [4, 5, 0, 1, 2, 3] rfl) (hD.sub [4, 5, 0, 1, 2, 3] (by decide) rfl) (Nat.le_of_ble_eq_true rfl) (Nat.le_of_ble_eq_true rfl) dX10_on_115
      · have h6 := ib_nle hg_many_2 hJ79_l2 c4
        have h7 : ib (g_many 2) 1 6 := ib_w 1 6 h6.1 (by decide)
        have h8 : ib J79_l2 0 5 := ib_w 0 5 h6.2 (by decide)
        refine lv_aload_n hx hb dX10_on_87 rfl (lv_at hl 0 rfl) ?_
        refine k_get C0 fg_X10_139 hP 4 rfl rfl dX10_on_88 ?_
        refine lv_iconst (v := 3) hx hb dX10_on_91 (by decide) ?_
        refine lv_iload_n hx hb dX10_on_92 rfl (lv_at hl 2 rfl) ?_
        refine lv_iadd hx hb dX10_on_93 ?_
        refine lv_topi (fun z9 ez9 => ?_)
        have h10 := ib_add (ib_c 3 3 3 (by decide)) h8 (by decide)
        rw [← ez9] at h10
        have h11 : ib z9 3 8 := ib_w 3 8 h10.1 (by decide)
        refine lv_aload_n hx hb dX10_on_94 rfl (lv_at hl 0 rfl) ?_
        refine k_get C0 fg_X10_7 hP 4 rfl rfl dX10_on_95 ?_
        refine lv_iconst (v := 4) hx hb dX10_on_98 (by decide) ?_
        refine lv_iload_n hx hb dX10_on_99 rfl (lv_at hl 2 rfl) ?_
        refine lv_iadd hx hb dX10_on_100 ?_
        refine lv_topi (fun z12 ez12 => ?_)
        have h13 := ib_add (ib_c 4 4 4 (by decide)) h8 (by decide)
        rw [← ez12] at h13
        have h14 : ib z12 4 9 := ib_w 4 9 h13.1 (by decide)
        refine va_iald hx hb C0.2.2.2.2.2.1 hP 0 0 rfl rfl (ib_in 1600 h14 (by decide)) dX10_on_101 ?_
        refine lv_topi (fun z15 ez15 => ?_)
        have h16 : ib z15 0 255 := by rw [ez15]; exact ia_at hg_tape (ib_in 1600 h14 (by decide))
        refine va_iast hx hb C0.2.2.2.2.2.1 hP hD hS 2 0 rfl rfl (ib_in 9 h11 (by decide)) dX10_on_102 (fun H locs hP hD hS => ?_)
        have hP : va_P (dC, dI) vwCl [((rm 0), .inl (cy 0, 1600, .inl g_tape)), ((rm 43), .inl (cy 0, 8, .inl g_bar)), ((rm 56), .inl (cy 0, 9, .inl (upd J79_a4 (Int32.toNatClampNeg z9) z15))), ((rm 9), .inl (cy 0, 6, .inl g_refused)), (a_this, .inr (10, mfs rm 0 x_at x_end x_ended x_bad x_badPlace x_fault x_faultPlace x_namePlace x_awayTold x_away x_coded x_statements x_isCrossing x_textKind x_askSecond x_redMany x_isOpen x_lastGreen x_greenTo x_isCycleGreen x_stillGreen x_rowMany x_fitMany x_fitRules x_fitGreen x_undoable x_newest x_seeded x_qCoded x_qWaits x_qOpened x_qBase x_qPiled x_qAnswer x_qIsNew x_octets)), ((rm 41), .inl (cy 0, 4, .inl g_many))] H := hP
        have hD : va_D A [((rm 0), .inl (cy 0, 1600, .inl g_tape)), ((rm 43), .inl (cy 0, 8, .inl g_bar)), ((rm 56), .inl (cy 0, 9, .inl (upd J79_a4 (Int32.toNatClampNeg z9) z15))), ((rm 9), .inl (cy 0, 6, .inl g_refused)), (a_this, .inr (10, mfs rm 0 x_at x_end x_ended x_bad x_badPlace x_fault x_faultPlace x_namePlace x_awayTold x_away x_coded x_statements x_isCrossing x_textKind x_askSecond x_redMany x_isOpen x_lastGreen x_greenTo x_isCycleGreen x_stillGreen x_rowMany x_fitMany x_fitRules x_fitGreen x_undoable x_newest x_seeded x_qCoded x_qWaits x_qOpened x_qBase x_qPiled x_qAnswer x_qIsNew x_octets)), ((rm 41), .inl (cy 0, 4, .inl g_many))] := hD
        generalize upd J79_a4 (Int32.toNatClampNeg z9) z15 = f17 at hP hD
        obtain ⟨z18, ez18⟩ : ∃ y : Int32, y = J79_l2 + 1 := ⟨_, rfl⟩
        refine lv_iinc (v := z18) (lv' := [(2, .int z18), (0, .ref a_this), (1, .int x_taped)]) hx hb dX10_on_103 hl (k := 2) rfl (by rw [ez18]; rfl) (by decide) rfl (fun ls hl => ?_)
        have h19 := ib_add h8 (ib_c 1 1 1 (by decide)) (by decide)
        rw [← ez18] at h19
        have h20 : ib z18 1 6 := ib_w 1 6 h19.1 (by decide)
        refine lv_goto (tgt := 79) hx hb dX10_on_106 (by decide) ?_
        exact ih79 f17 z18 H locs ls (ib_w 5 11 hK79_x_taped (by decide)) (ib_w 1 1 hK79_x_isCrossing (by decide)) (ib_w 10 120 hJ79_a3_4 (by decide)) (ib_w 0 6 h20 (by decide)) (by have := h19.2; have : (1 : Int32).toInt = 1 := (by decide); omega) (hP.sub [4, 5, 0, 1, 2, 3] rfl) (hD.sub [4, 5, 0, 1, 2, 3] (by decide) rfl) hS (lv_sub hl [1, 2, 0] rfl)
  refine lv_aload_n hx hb dX10_on_0 rfl (lv_at hl 0 rfl) ?_
  refine k_get C0 fg_X10_276 hP 0 rfl rfl dX10_on_1 ?_
  refine lv_istore_n (lv' := [(1, .int x_taped), (0, .ref a_this)]) hx hb dX10_on_4 rfl hl (by decide) rfl (fun ls hl => ?_)
  refine lv_aload_n hx hb dX10_on_5 rfl (lv_at hl 1 rfl) ?_
  refine lv_iconst (v := 0) hx hb dX10_on_6 (by decide) ?_
  refine k_put C0 fp_X10_276 hP hD hS 0 rfl rfl rfl (Nat.le_of_ble_eq_true rfl) dX10_on_7 (fun H locs hP hD hS => ?_)
  have hP : va_P (dC, dI) vwCl [(a_this, .inr (10, mfs rm 0 x_at x_end x_ended x_bad x_badPlace x_fault x_faultPlace x_namePlace x_awayTold x_away x_coded x_statements x_isCrossing x_textKind x_askSecond x_redMany x_isOpen x_lastGreen x_greenTo x_isCycleGreen x_stillGreen x_rowMany x_fitMany x_fitRules x_fitGreen x_undoable x_newest x_seeded x_qCoded x_qWaits x_qOpened x_qBase x_qPiled x_qAnswer x_qIsNew x_octets)), ((rm 41), .inl (cy 0, 4, .inl g_many)), ((rm 0), .inl (cy 0, 1600, .inl g_tape)), ((rm 43), .inl (cy 0, 8, .inl g_bar)), ((rm 56), .inl (cy 0, 9, .inl g_now)), ((rm 9), .inl (cy 0, 6, .inl g_refused))] H := hP
  have hD : va_D A [(a_this, .inr (10, mfs rm 0 x_at x_end x_ended x_bad x_badPlace x_fault x_faultPlace x_namePlace x_awayTold x_away x_coded x_statements x_isCrossing x_textKind x_askSecond x_redMany x_isOpen x_lastGreen x_greenTo x_isCycleGreen x_stillGreen x_rowMany x_fitMany x_fitRules x_fitGreen x_undoable x_newest x_seeded x_qCoded x_qWaits x_qOpened x_qBase x_qPiled x_qAnswer x_qIsNew x_octets)), ((rm 41), .inl (cy 0, 4, .inl g_many)), ((rm 0), .inl (cy 0, 1600, .inl g_tape)), ((rm 43), .inl (cy 0, 8, .inl g_bar)), ((rm 56), .inl (cy 0, 9, .inl g_now)), ((rm 9), .inl (cy 0, 6, .inl g_refused))] := hD
  refine lv_aload_n hx hb dX10_on_10 rfl (lv_at hl 1 rfl) ?_
  refine lv_iload_n hx hb dX10_on_11 rfl (lv_at hl 0 rfl) ?_
  refine k_ji hP hD hS hA [0, 1, 2, 3] [4, 5] (wr := [((rm 56), .inl (cy 0, 9, .inl g_now)), ((rm 9), .inl (cy 0, 6, .inl g_refused))]) rfl rfl (by decide) (by decide) (by decide) 0 0 (Nat.le_of_ble_eq_true rfl) (Nat.le_of_ble_eq_true rfl) (fun hPc hDc => k_runV (As := [.int x_taped]) (rest := []) C0 hZ hS hA (s_X10_isImage l dC dI cy sq a_this rm 0 x_at x_end x_ended x_bad x_badPlace x_fault x_faultPlace x_namePlace x_awayTold x_away x_coded x_statements x_isCrossing x_textKind x_askSecond x_redMany x_isOpen x_lastGreen x_greenTo x_isCycleGreen x_stillGreen x_rowMany x_fitMany x_fitRules x_fitGreen x_undoable x_newest x_seeded x_qCoded x_qWaits x_qOpened x_qBase x_qPiled x_qAnswer x_qIsNew x_octets g_tape g_many g_bar x_taped (ib_w 0 1 hx_isCrossing (by decide)) hg_tape (ib_w 0 6 hg_many_2 (by decide)) (ib_w 0 120 hg_bar_4 (by decide)) (fun hq9 => ib_w 10 120 (hc_cr hq9) (by decide)) (ib_w 0 1600 hx_taped (by decide))) mV_X10_709 hPc hDc rfl rfl rfl hl rfl rfl (Nat.le_of_ble_eq_true rfl) ⟨(Nat.le_of_ble_eq_true rfl), (Nat.le_of_ble_eq_true rfl)⟩ ⟨(Nat.le_of_ble_eq_true rfl), (Nat.le_of_ble_eq_true rfl)⟩ dX10_on_12) (fun r21 u22 H locs hw hP hD hS => ?_)
  try dsimp only at hP hD hw
  have hP : va_P (dC, dI) vwCl [((rm 56), .inl (cy 0, 9, .inl g_now)), ((rm 9), .inl (cy 0, 6, .inl g_refused)), (a_this, .inr (10, mfs rm 0 x_at x_end x_ended x_bad x_badPlace x_fault x_faultPlace x_namePlace x_awayTold x_away x_coded x_statements x_isCrossing x_textKind x_askSecond x_redMany x_isOpen x_lastGreen x_greenTo x_isCycleGreen x_stillGreen x_rowMany x_fitMany x_fitRules x_fitGreen x_undoable x_newest x_seeded x_qCoded x_qWaits x_qOpened x_qBase x_qPiled x_qAnswer x_qIsNew x_octets)), ((rm 41), .inl (cy 0, 4, .inl g_many)), ((rm 0), .inl (cy 0, 1600, .inl g_tape)), ((rm 43), .inl (cy 0, 8, .inl g_bar))] H := hP
  have hD : va_D A [((rm 56), .inl (cy 0, 9, .inl g_now)), ((rm 9), .inl (cy 0, 6, .inl g_refused)), (a_this, .inr (10, mfs rm 0 x_at x_end x_ended x_bad x_badPlace x_fault x_faultPlace x_namePlace x_awayTold x_away x_coded x_statements x_isCrossing x_textKind x_askSecond x_redMany x_isOpen x_lastGreen x_greenTo x_isCycleGreen x_stillGreen x_rowMany x_fitMany x_fitRules x_fitGreen x_undoable x_newest x_seeded x_qCoded x_qWaits x_qOpened x_qBase x_qPiled x_qAnswer x_qIsNew x_octets)), ((rm 41), .inl (cy 0, 4, .inl g_many)), ((rm 0), .inl (cy 0, 1600, .inl g_tape)), ((rm 43), .inl (cy 0, 8, .inl g_bar))] := hD
  obtain ⟨h23, h24, h25, h26⟩ := hw
  refine lv_if_ne (tgt := 30) hx hb dX10_on_15 (by decide) (fun c27 => ?_) (fun c27 => ?_)
  · have h28 : ib r21 1 1 := ib_w 1 1 (ib_ne_lo 0 h23 (by decide) c27) (by decide)
    have h29 : ib (g_bar 4) 10 120 := ib_w 10 120 (ib_two hg_bar_4 (h24 (ib_nz h28 (by decide)))) (by decide)
    have h30 : ib x_isCrossing 1 1 := ib_w 1 1 (ib_two hx_isCrossing (h25 (ib_nz h28 (by decide)))) (by decide)
    have h31 : ib x_taped 5 11 := ib_w 5 11 (ib_two hx_taped (h26 (ib_nz h28 (by decide)))) (by decide)
    refine lv_aload_n hx hb dX10_on_30 rfl (lv_at hl 1 rfl) ?_
    refine k_get C0 fg_X10_139 hP 2 rfl rfl dX10_on_31 ?_
    refine lv_iconst (v := 0) hx hb dX10_on_34 (by decide) ?_
    refine lv_sipush (v := 256) hx hb dX10_on_35 (by decide) ?_
    refine lv_aload_n hx hb dX10_on_38 rfl (lv_at hl 1 rfl) ?_
    refine k_get C0 fg_X10_7 hP 2 rfl rfl dX10_on_39 ?_
    refine lv_iconst (v := 0) hx hb dX10_on_42 (by decide) ?_
    refine va_iald hx hb C0.2.2.2.2.2.1 hP 4 0 rfl rfl (k_in 0 1600 (by decide)) dX10_on_43 ?_
    refine lv_topi (fun z32 ez32 => ?_)
    have h33 : ib z32 0 255 := by rw [ez32]; exact ia_at hg_tape (k_in 0 1600 (by decide))
    refine lv_imul hx hb dX10_on_44 ?_
    refine lv_topi (fun z34 ez34 => ?_)
    have h35 := ib_mul (ib_c 256 256 256 (by decide)) h33 (by decide)
    rw [← ez34] at h35
    have h36 : ib z34 0 65280 := ib_w 0 65280 h35.1 (by decide)
    have h37 : z34.toInt = 256 * z32.toInt := by have q0 := h35.2; rw [show (256 : Int32).toInt = 256 from by decide] at q0; omega
    refine lv_aload_n hx hb dX10_on_45 rfl (lv_at hl 1 rfl) ?_
    refine k_get C0 fg_X10_7 hP 2 rfl rfl dX10_on_46 ?_
    refine lv_iconst (v := 1) hx hb dX10_on_49 (by decide) ?_
    refine va_iald hx hb C0.2.2.2.2.2.1 hP 4 0 rfl rfl (k_in 1 1600 (by decide)) dX10_on_50 ?_
    refine lv_topi (fun z38 ez38 => ?_)
    have h39 : ib z38 0 255 := by rw [ez38]; exact ia_at hg_tape (k_in 1 1600 (by decide))
    refine lv_iadd hx hb dX10_on_51 ?_
    refine lv_topi (fun z40 ez40 => ?_)
    have h41 := ib_add h36 h39 (by decide)
    rw [← ez40] at h41
    have h42 : ib z40 0 65535 := ib_w 0 65535 h41.1 (by decide)
    refine va_iast hx hb C0.2.2.2.2.2.1 hP hD hS 0 0 rfl rfl (k_in 0 9 (by decide)) dX10_on_52 (fun H locs hP hD hS => ?_)
    have hP : va_P (dC, dI) vwCl [((rm 56), .inl (cy 0, 9, .inl (upd g_now 0 z40))), ((rm 9), .inl (cy 0, 6, .inl g_refused)), (a_this, .inr (10, mfs rm 0 x_at x_end x_ended x_bad x_badPlace x_fault x_faultPlace x_namePlace x_awayTold x_away x_coded x_statements x_isCrossing x_textKind x_askSecond x_redMany x_isOpen x_lastGreen x_greenTo x_isCycleGreen x_stillGreen x_rowMany x_fitMany x_fitRules x_fitGreen x_undoable x_newest x_seeded x_qCoded x_qWaits x_qOpened x_qBase x_qPiled x_qAnswer x_qIsNew x_octets)), ((rm 41), .inl (cy 0, 4, .inl g_many)), ((rm 0), .inl (cy 0, 1600, .inl g_tape)), ((rm 43), .inl (cy 0, 8, .inl g_bar))] H := hP
    have hD : va_D A [((rm 56), .inl (cy 0, 9, .inl (upd g_now 0 z40))), ((rm 9), .inl (cy 0, 6, .inl g_refused)), (a_this, .inr (10, mfs rm 0 x_at x_end x_ended x_bad x_badPlace x_fault x_faultPlace x_namePlace x_awayTold x_away x_coded x_statements x_isCrossing x_textKind x_askSecond x_redMany x_isOpen x_lastGreen x_greenTo x_isCycleGreen x_stillGreen x_rowMany x_fitMany x_fitRules x_fitGreen x_undoable x_newest x_seeded x_qCoded x_qWaits x_qOpened x_qBase x_qPiled x_qAnswer x_qIsNew x_octets)), ((rm 41), .inl (cy 0, 4, .inl g_many)), ((rm 0), .inl (cy 0, 1600, .inl g_tape)), ((rm 43), .inl (cy 0, 8, .inl g_bar))] := hD
    generalize upd g_now 0 z40 = f43 at hP hD
    refine lv_aload_n hx hb dX10_on_53 rfl (lv_at hl 1 rfl) ?_
    refine k_get C0 fg_X10_139 hP 2 rfl rfl dX10_on_54 ?_
    refine lv_iconst (v := 1) hx hb dX10_on_57 (by decide) ?_
    refine lv_aload_n hx hb dX10_on_58 rfl (lv_at hl 1 rfl) ?_
    refine k_get C0 fg_X10_7 hP 2 rfl rfl dX10_on_59 ?_
    refine lv_iconst (v := 2) hx hb dX10_on_62 (by decide) ?_
    refine va_iald hx hb C0.2.2.2.2.2.1 hP 4 0 rfl rfl (k_in 2 1600 (by decide)) dX10_on_63 ?_
    refine lv_topi (fun z44 ez44 => ?_)
    have h45 : ib z44 0 255 := by rw [ez44]; exact ia_at hg_tape (k_in 2 1600 (by decide))
    refine va_iast hx hb C0.2.2.2.2.2.1 hP hD hS 0 0 rfl rfl (k_in 1 9 (by decide)) dX10_on_64 (fun H locs hP hD hS => ?_)
    have hP : va_P (dC, dI) vwCl [((rm 56), .inl (cy 0, 9, .inl (upd f43 1 z44))), ((rm 9), .inl (cy 0, 6, .inl g_refused)), (a_this, .inr (10, mfs rm 0 x_at x_end x_ended x_bad x_badPlace x_fault x_faultPlace x_namePlace x_awayTold x_away x_coded x_statements x_isCrossing x_textKind x_askSecond x_redMany x_isOpen x_lastGreen x_greenTo x_isCycleGreen x_stillGreen x_rowMany x_fitMany x_fitRules x_fitGreen x_undoable x_newest x_seeded x_qCoded x_qWaits x_qOpened x_qBase x_qPiled x_qAnswer x_qIsNew x_octets)), ((rm 41), .inl (cy 0, 4, .inl g_many)), ((rm 0), .inl (cy 0, 1600, .inl g_tape)), ((rm 43), .inl (cy 0, 8, .inl g_bar))] H := hP
    have hD : va_D A [((rm 56), .inl (cy 0, 9, .inl (upd f43 1 z44))), ((rm 9), .inl (cy 0, 6, .inl g_refused)), (a_this, .inr (10, mfs rm 0 x_at x_end x_ended x_bad x_badPlace x_fault x_faultPlace x_namePlace x_awayTold x_away x_coded x_statements x_isCrossing x_textKind x_askSecond x_redMany x_isOpen x_lastGreen x_greenTo x_isCycleGreen x_stillGreen x_rowMany x_fitMany x_fitRules x_fitGreen x_undoable x_newest x_seeded x_qCoded x_qWaits x_qOpened x_qBase x_qPiled x_qAnswer x_qIsNew x_octets)), ((rm 41), .inl (cy 0, 4, .inl g_many)), ((rm 0), .inl (cy 0, 1600, .inl g_tape)), ((rm 43), .inl (cy 0, 8, .inl g_bar))] := hD
    generalize upd f43 1 z44 = f46 at hP hD
    refine lv_aload_n hx hb dX10_on_65 rfl (lv_at hl 1 rfl) ?_
    refine k_get C0 fg_X10_139 hP 2 rfl rfl dX10_on_66 ?_
    refine lv_iconst (v := 2) hx hb dX10_on_69 (by decide) ?_
    refine lv_aload_n hx hb dX10_on_70 rfl (lv_at hl 1 rfl) ?_
    refine k_get C0 fg_X10_7 hP 2 rfl rfl dX10_on_71 ?_
    refine lv_iconst (v := 3) hx hb dX10_on_74 (by decide) ?_
    refine va_iald hx hb C0.2.2.2.2.2.1 hP 4 0 rfl rfl (k_in 3 1600 (by decide)) dX10_on_75 ?_
    refine lv_topi (fun z47 ez47 => ?_)
    have h48 : ib z47 0 255 := by rw [ez47]; exact ia_at hg_tape (k_in 3 1600 (by decide))
    refine va_iast hx hb C0.2.2.2.2.2.1 hP hD hS 0 0 rfl rfl (k_in 2 9 (by decide)) dX10_on_76 (fun H locs hP hD hS => ?_)
    have hP : va_P (dC, dI) vwCl [((rm 56), .inl (cy 0, 9, .inl (upd f46 2 z47))), ((rm 9), .inl (cy 0, 6, .inl g_refused)), (a_this, .inr (10, mfs rm 0 x_at x_end x_ended x_bad x_badPlace x_fault x_faultPlace x_namePlace x_awayTold x_away x_coded x_statements x_isCrossing x_textKind x_askSecond x_redMany x_isOpen x_lastGreen x_greenTo x_isCycleGreen x_stillGreen x_rowMany x_fitMany x_fitRules x_fitGreen x_undoable x_newest x_seeded x_qCoded x_qWaits x_qOpened x_qBase x_qPiled x_qAnswer x_qIsNew x_octets)), ((rm 41), .inl (cy 0, 4, .inl g_many)), ((rm 0), .inl (cy 0, 1600, .inl g_tape)), ((rm 43), .inl (cy 0, 8, .inl g_bar))] H := hP
    have hD : va_D A [((rm 56), .inl (cy 0, 9, .inl (upd f46 2 z47))), ((rm 9), .inl (cy 0, 6, .inl g_refused)), (a_this, .inr (10, mfs rm 0 x_at x_end x_ended x_bad x_badPlace x_fault x_faultPlace x_namePlace x_awayTold x_away x_coded x_statements x_isCrossing x_textKind x_askSecond x_redMany x_isOpen x_lastGreen x_greenTo x_isCycleGreen x_stillGreen x_rowMany x_fitMany x_fitRules x_fitGreen x_undoable x_newest x_seeded x_qCoded x_qWaits x_qOpened x_qBase x_qPiled x_qAnswer x_qIsNew x_octets)), ((rm 41), .inl (cy 0, 4, .inl g_many)), ((rm 0), .inl (cy 0, 1600, .inl g_tape)), ((rm 43), .inl (cy 0, 8, .inl g_bar))] := hD
    generalize upd f46 2 z47 = f49 at hP hD
    refine lv_iconst (v := 0) hx hb dX10_on_77 (by decide) ?_
    refine lv_istore_n (lv' := [(2, .int 0), (1, .int x_taped), (0, .ref a_this)]) hx hb dX10_on_78 rfl hl (by decide) rfl (fun ls hl => ?_)
    exact jn79 8 f49 0 H locs ls (ib_w 5 11 h31 (by decide)) (ib_w 1 1 h30 (by decide)) (ib_w 10 120 h29 (by decide)) (ib_w 0 6 (ib_c 0 0 0 (by decide)) (by decide)) (by have := (ib_c 0 0 0 (by decide)); unfold ib at this; omega) (hP.sub [2, 3, 4, 5, 0, 1] rfl) (hD.sub [2, 3, 4, 5, 0, 1] (by decide) rfl) hS (lv_sub hl [2, 1, 0] rfl)
  · have h50 := ib_eq h23 (ib_c 0 0 0 (by decide)) c27
    have h51 : ib r21 0 0 := ib_w 0 0 h50.1 (by decide)
    refine lv_aload_n hx hb dX10_on_18 rfl (lv_at hl 1 rfl) ?_
    refine k_get C0 fg_X10_17 hP 2 rfl rfl dX10_on_19 ?_
    refine lv_iconst (v := 5) hx hb dX10_on_22 (by decide) ?_
    refine lv_dup2_11 hx hb dX10_on_23 rfl rfl ?_
    refine va_iald hx hb C0.2.2.2.2.2.1 hP 1 0 rfl rfl (k_in 5 6 (by decide)) dX10_on_24 ?_
    refine lv_topi (fun z52 ez52 => ?_)
    refine lv_iconst (v := 1) hx hb dX10_on_25 (by decide) ?_
    refine lv_iadd hx hb dX10_on_26 ?_
    refine lv_topi (fun z53 ez53 => ?_)
    refine va_iast hx hb C0.2.2.2.2.2.1 hP hD hS 1 0 rfl rfl (k_in 5 6 (by decide)) dX10_on_27 (fun H locs hP hD hS => ?_)
    have hP : va_P (dC, dI) vwCl [((rm 56), .inl (cy 0, 9, .inl g_now)), ((rm 9), .inl (cy 0, 6, .inl (upd g_refused 5 z53))), (a_this, .inr (10, mfs rm 0 x_at x_end x_ended x_bad x_badPlace x_fault x_faultPlace x_namePlace x_awayTold x_away x_coded x_statements x_isCrossing x_textKind x_askSecond x_redMany x_isOpen x_lastGreen x_greenTo x_isCycleGreen x_stillGreen x_rowMany x_fitMany x_fitRules x_fitGreen x_undoable x_newest x_seeded x_qCoded x_qWaits x_qOpened x_qBase x_qPiled x_qAnswer x_qIsNew x_octets)), ((rm 41), .inl (cy 0, 4, .inl g_many)), ((rm 0), .inl (cy 0, 1600, .inl g_tape)), ((rm 43), .inl (cy 0, 8, .inl g_bar))] H := hP
    have hD : va_D A [((rm 56), .inl (cy 0, 9, .inl g_now)), ((rm 9), .inl (cy 0, 6, .inl (upd g_refused 5 z53))), (a_this, .inr (10, mfs rm 0 x_at x_end x_ended x_bad x_badPlace x_fault x_faultPlace x_namePlace x_awayTold x_away x_coded x_statements x_isCrossing x_textKind x_askSecond x_redMany x_isOpen x_lastGreen x_greenTo x_isCycleGreen x_stillGreen x_rowMany x_fitMany x_fitRules x_fitGreen x_undoable x_newest x_seeded x_qCoded x_qWaits x_qOpened x_qBase x_qPiled x_qAnswer x_qIsNew x_octets)), ((rm 41), .inl (cy 0, 4, .inl g_many)), ((rm 0), .inl (cy 0, 1600, .inl g_tape)), ((rm 43), .inl (cy 0, 8, .inl g_bar))] := hD
    generalize upd g_refused 5 z53 = f54 at hP hD
    refine lv_iconst (v := 0) hx hb dX10_on_28 (by decide) ?_
    subst hQ; exact k_iret hx hb hr hlk (k_nb 0 (by decide)) ((x_undoable, g_now, f54)) hS ⟨ib_w 0 20 hx_undoable (by decide), ib_w 0 1 (ib_c 0 0 0 (by decide)) (by decide), fun hq9 => absurd rfl hq9, fun hq9 => absurd rfl hq9, fun hq9 => absurd rfl hq9, fun hq9 => absurd rfl hq9⟩ (hP.sub [2, 3, 4, 5, 0, 1] rfl) (hD.sub [2, 3, 4, 5, 0, 1] (by decide) rfl) (Nat.le_of_ble_eq_true rfl) (Nat.le_of_ble_eq_true rfl) dX10_on_29
set_option maxHeartbeats 4000000 in
set_option maxRecDepth 100000 in
theorem s_X10_qWordOf (l : Launch) (dC : Nat → ClassId) (dI : Nat → Nat → Nat) (cy : Nat → ClassId) (sq : Nat → Nat) (a_this : Nat) (rm : Nat → Nat) (x_taped : Int32) (x_at : Int32) (x_end : Int32) (x_ended : Int32) (x_bad : Int32) (x_badPlace : Int32) (x_fault : Int32) (x_faultPlace : Int32) (x_namePlace : Int32) (x_awayTold : Int32) (x_away : Int32) (x_coded : Int32) (x_statements : Int32) (x_isCrossing : Int32) (x_textKind : Int32) (x_askSecond : Int32) (x_redMany : Int32) (x_isOpen : Int32) (x_lastGreen : Int32) (x_greenTo : Int32) (x_isCycleGreen : Int32) (x_stillGreen : Int32) (x_rowMany : Int32) (x_fitMany : Int32) (x_fitRules : Int32) (x_fitGreen : Int32) (x_undoable : Int32) (x_newest : Int32) (x_seeded : Int64) (x_qCoded : Int32) (x_qWaits : Int32) (x_qOpened : Int32) (x_qBase : Int32) (x_qPiled : Int32) (x_qAnswer : Int64) (x_qIsNew : Int32) (x_octets : Int32) (g_tape : Nat → Int32) (g_secondAsked : Nat → Int32) (g_dayAsked : Nat → Int32) (g_phaseAsked : Nat → Int32) (g_waitedAsked : Nat → Int32) (g_calmAsked : Nat → Int32) (g_paceAsked : Nat → Int32) (g_trustsAsked : Nat → Int32) (g_gapAsked : Nat → Int32) (g_redsAsked : Nat → Int32) (g_numberAsked : Nat → Int32) (g_wentAsked : Nat → Int32) (g_harmAsked : Nat → Int32) (g_kindofAsked : Nat → Int32) (p0 : Int32) (p1 : Int32) (hx_at : ib x_at 0 1600) (hx_end : ib x_end 0 1600) (hg_tape : ia g_tape 1600 0 255) : k_Met l yX10_qWordOf cX10_qWordOf 4 (some .int) { frames := 3, cells := 0, slots := 0, locals := 63 } dC dI cy sq [.ref a_this, .int p0, .int p1] [(a_this, .inr (10, mfs rm x_taped x_at x_end x_ended x_bad x_badPlace x_fault x_faultPlace x_namePlace x_awayTold x_away x_coded x_statements x_isCrossing x_textKind x_askSecond x_redMany x_isOpen x_lastGreen x_greenTo x_isCycleGreen x_stillGreen x_rowMany x_fitMany x_fitRules x_fitGreen x_undoable x_newest x_seeded x_qCoded x_qWaits x_qOpened x_qBase x_qPiled x_qAnswer x_qIsNew x_octets)), ((rm 0), .inl (cy 0, 1600, .inl g_tape)), ((rm 97), .inl (cy 2, 6, .inl g_secondAsked)), ((rm 98), .inl (cy 2, 3, .inl g_dayAsked)), ((rm 99), .inl (cy 2, 5, .inl g_phaseAsked)), ((rm 100), .inl (cy 2, 6, .inl g_waitedAsked)), ((rm 101), .inl (cy 2, 4, .inl g_calmAsked)), ((rm 102), .inl (cy 2, 4, .inl g_paceAsked)), ((rm 103), .inl (cy 2, 6, .inl g_trustsAsked)), ((rm 104), .inl (cy 2, 3, .inl g_gapAsked)), ((rm 105), .inl (cy 2, 4, .inl g_redsAsked)), ((rm 106), .inl (cy 2, 6, .inl g_numberAsked)), ((rm 107), .inl (cy 2, 4, .inl g_wentAsked)), ((rm 108), .inl (cy 2, 4, .inl g_harmAsked)), ((rm 109), .inl (cy 2, 4, .inl g_kindofAsked))] (k_Qi dC dI (fun (r : Int32) (n0 : Int32) => ib n0 0 1600 ∧ ib r (-1) 12 ∧ (1 * x_at.toInt + (-1) * n0.toInt ≤ 0) ∧ (¬ r = (-1) → ¬ x_textKind = 1 → ¬ r = 7) ∧ (NB g_tape x_at x_end → n0 = x_at) ∧ (¬ r = (-1) → ib r (-1) 12)) (fun n0 : Int32 => [(a_this, .inr (10, mfs rm x_taped n0 x_end x_ended x_bad x_badPlace x_fault x_faultPlace x_namePlace x_awayTold x_away x_coded x_statements x_isCrossing x_textKind x_askSecond x_redMany x_isOpen x_lastGreen x_greenTo x_isCycleGreen x_stillGreen x_rowMany x_fitMany x_fitRules x_fitGreen x_undoable x_newest x_seeded x_qCoded x_qWaits x_qOpened x_qBase x_qPiled x_qAnswer x_qIsNew x_octets)), ((rm 0), .inl (cy 0, 1600, .inl g_tape)), ((rm 97), .inl (cy 2, 6, .inl g_secondAsked)), ((rm 98), .inl (cy 2, 3, .inl g_dayAsked)), ((rm 99), .inl (cy 2, 5, .inl g_phaseAsked)), ((rm 100), .inl (cy 2, 6, .inl g_waitedAsked)), ((rm 101), .inl (cy 2, 4, .inl g_calmAsked)), ((rm 102), .inl (cy 2, 4, .inl g_paceAsked)), ((rm 103), .inl (cy 2, 6, .inl g_trustsAsked)), ((rm 104), .inl (cy 2, 3, .inl g_gapAsked)), ((rm 105), .inl (cy 2, 4, .inl g_redsAsked)), ((rm 106), .inl (cy 2, 6, .inl g_numberAsked)), ((rm 107), .inl (cy 2, 4, .inl g_wentAsked)), ((rm 108), .inl (cy 2, 4, .inl g_harmAsked)), ((rm 109), .inl (cy 2, 4, .inl g_kindofAsked))])) := by
  refine k_ofW2 (by decide +kernel) (Nat.le_of_ble_eq_true rfl) ?_
  intro p e s m below meth c A ls H locs args Q hQ C0 hZ hr hlk hin hP hD hA hS hl
  have C0 : k_cx p s m args c cX10_qWordOf 4 RX10 dC dI cy sq := C0
  have hx := C0.1
  have hb := C0.2.1
  have hl : lv_has ls 4 [(0, .ref a_this), (1, .int p0), (2, .int p1)] := hl
  refine lv_aload_n hx hb dX10_qWordOf_0 rfl (lv_at hl 0 rfl) ?_
  refine k_ji hP hD hS hA [0, 1, 2, 3, 4, 5, 6, 7, 8, 9, 10, 11, 12, 13, 14] [] (wr := []) rfl rfl (by decide) (by decide) (by decide) 0 0 (Nat.le_of_ble_eq_true rfl) (Nat.le_of_ble_eq_true rfl) (fun hPc hDc => k_runV (As := []) (rest := []) C0 hZ hS hA (s_X10_qWordHere l dC dI cy sq a_this rm x_taped x_at x_end x_ended x_bad x_badPlace x_fault x_faultPlace x_namePlace x_awayTold x_away x_coded x_statements x_isCrossing x_textKind x_askSecond x_redMany x_isOpen x_lastGreen x_greenTo x_isCycleGreen x_stillGreen x_rowMany x_fitMany x_fitRules x_fitGreen x_undoable x_newest x_seeded x_qCoded x_qWaits x_qOpened x_qBase x_qPiled x_qAnswer x_qIsNew x_octets g_tape g_secondAsked g_dayAsked g_phaseAsked g_waitedAsked g_calmAsked g_paceAsked g_trustsAsked g_gapAsked g_redsAsked g_numberAsked g_wentAsked g_harmAsked g_kindofAsked (ib_w 0 1600 hx_at (by decide)) (ib_w 0 1600 hx_end (by decide)) hg_tape) mV_X10_617 hPc hDc rfl rfl rfl hl rfl rfl (Nat.le_of_ble_eq_true rfl) ⟨(Nat.le_of_ble_eq_true rfl), (Nat.le_of_ble_eq_true rfl)⟩ ⟨(Nat.le_of_ble_eq_true rfl), (Nat.le_of_ble_eq_true rfl)⟩ dX10_qWordOf_1) (fun r1 u2 H locs hw hP hD hS => ?_)
  obtain ⟨v3, ev3⟩ : ∃ z, z = u2 := ⟨_, rfl⟩; subst ev3
  try dsimp only at hP hD hw
  have hP : va_P (dC, dI) vwCl [(a_this, .inr (10, mfs rm x_taped v3 x_end x_ended x_bad x_badPlace x_fault x_faultPlace x_namePlace x_awayTold x_away x_coded x_statements x_isCrossing x_textKind x_askSecond x_redMany x_isOpen x_lastGreen x_greenTo x_isCycleGreen x_stillGreen x_rowMany x_fitMany x_fitRules x_fitGreen x_undoable x_newest x_seeded x_qCoded x_qWaits x_qOpened x_qBase x_qPiled x_qAnswer x_qIsNew x_octets)), ((rm 0), .inl (cy 0, 1600, .inl g_tape)), ((rm 97), .inl (cy 2, 6, .inl g_secondAsked)), ((rm 98), .inl (cy 2, 3, .inl g_dayAsked)), ((rm 99), .inl (cy 2, 5, .inl g_phaseAsked)), ((rm 100), .inl (cy 2, 6, .inl g_waitedAsked)), ((rm 101), .inl (cy 2, 4, .inl g_calmAsked)), ((rm 102), .inl (cy 2, 4, .inl g_paceAsked)), ((rm 103), .inl (cy 2, 6, .inl g_trustsAsked)), ((rm 104), .inl (cy 2, 3, .inl g_gapAsked)), ((rm 105), .inl (cy 2, 4, .inl g_redsAsked)), ((rm 106), .inl (cy 2, 6, .inl g_numberAsked)), ((rm 107), .inl (cy 2, 4, .inl g_wentAsked)), ((rm 108), .inl (cy 2, 4, .inl g_harmAsked)), ((rm 109), .inl (cy 2, 4, .inl g_kindofAsked))] H := hP
  have hD : va_D A [(a_this, .inr (10, mfs rm x_taped v3 x_end x_ended x_bad x_badPlace x_fault x_faultPlace x_namePlace x_awayTold x_away x_coded x_statements x_isCrossing x_textKind x_askSecond x_redMany x_isOpen x_lastGreen x_greenTo x_isCycleGreen x_stillGreen x_rowMany x_fitMany x_fitRules x_fitGreen x_undoable x_newest x_seeded x_qCoded x_qWaits x_qOpened x_qBase x_qPiled x_qAnswer x_qIsNew x_octets)), ((rm 0), .inl (cy 0, 1600, .inl g_tape)), ((rm 97), .inl (cy 2, 6, .inl g_secondAsked)), ((rm 98), .inl (cy 2, 3, .inl g_dayAsked)), ((rm 99), .inl (cy 2, 5, .inl g_phaseAsked)), ((rm 100), .inl (cy 2, 6, .inl g_waitedAsked)), ((rm 101), .inl (cy 2, 4, .inl g_calmAsked)), ((rm 102), .inl (cy 2, 4, .inl g_paceAsked)), ((rm 103), .inl (cy 2, 6, .inl g_trustsAsked)), ((rm 104), .inl (cy 2, 3, .inl g_gapAsked)), ((rm 105), .inl (cy 2, 4, .inl g_redsAsked)), ((rm 106), .inl (cy 2, 6, .inl g_numberAsked)), ((rm 107), .inl (cy 2, 4, .inl g_wentAsked)), ((rm 108), .inl (cy 2, 4, .inl g_harmAsked)), ((rm 109), .inl (cy 2, 4, .inl g_kindofAsked))] := hD
  obtain ⟨h4, h5, h6, h7⟩ := hw
  refine lv_istore_n (lv' := [(3, .int r1), (0, .ref a_this), (1, .int p0), (2, .int p1)]) hx hb dX10_qWordOf_4 rfl hl (by decide) rfl (fun ls hl => ?_)
  refine lv_iload_n hx hb dX10_qWordOf_5 rfl (lv_at hl 0 rfl) ?_
  refine lv_iload_n hx hb dX10_qWordOf_6 rfl (lv_at hl 2 rfl) ?_
  refine lv_icmp_lt (tgt := 27) hx hb dX10_qWordOf_7 (by decide) (fun c8 => ?_) (fun c8 => ?_)
  · have h9 := ib_lt h5 (ib_any p0) c8
    have h10 : ib p0 0 2147483647 := ib_w 0 2147483647 h9.2 (by decide)
    refine lv_iconst (v := (-1)) hx hb dX10_qWordOf_27 (by decide) ?_
    subst hQ; exact k_iret hx hb hr hlk rfl v3 hS ⟨ib_w 0 1600 h4 (by decide), ib_w (-1) 12 (ib_c (-1) (-1) (-1) (by decide)) (by decide), (by have := (h4).1; have := (h4).2; have := h6; have := (hx_at).1; have := (hx_at).2; omega), fun q => absurd rfl q, fun q9 => (by have e0n : v3 = x_at := h7 q9; exact e0n), fun q => absurd rfl q⟩ hP hD (Nat.le_of_ble_eq_true rfl) (Nat.le_of_ble_eq_true rfl) dX10_qWordOf_28
  · have h11 := ib_nlt h5 (ib_any p0) c8
    have h12 : ib p0 (-2147483648) 12 := ib_w (-2147483648) 12 h11.2 (by decide)
    refine lv_iload_n hx hb dX10_qWordOf_10 rfl (lv_at hl 0 rfl) ?_
    refine lv_iload_n hx hb dX10_qWordOf_11 rfl (lv_at hl 3 rfl) ?_
    refine lv_icmp_ge (tgt := 27) hx hb dX10_qWordOf_12 (by decide) (fun c13 => ?_) (fun c13 => ?_)
    · have h14 := ib_le (ib_any p1) h5 c13
      have h15 : ib p1 (-2147483648) 12 := ib_w (-2147483648) 12 h14.1 (by decide)
      refine lv_iconst (v := (-1)) hx hb dX10_qWordOf_27 (by decide) ?_
      subst hQ; exact k_iret hx hb hr hlk rfl v3 hS ⟨ib_w 0 1600 h4 (by decide), ib_w (-1) 12 (ib_c (-1) (-1) (-1) (by decide)) (by decide), (by have := (h4).1; have := (h4).2; have := h6; have := (hx_at).1; have := (hx_at).2; omega), fun q => absurd rfl q, fun q9 => (by have e0n : v3 = x_at := h7 q9; exact e0n), fun q => absurd rfl q⟩ hP hD (Nat.le_of_ble_eq_true rfl) (Nat.le_of_ble_eq_true rfl) dX10_qWordOf_28
    · have h16 := ib_nle (ib_any p1) h5 c13
      have h17 : ib p1 0 2147483647 := ib_w 0 2147483647 h16.1 (by decide)
      refine lv_aload_n hx hb dX10_qWordOf_15 rfl (lv_at hl 1 rfl) ?_
      refine lv_iload_n hx hb dX10_qWordOf_16 rfl (lv_at hl 0 rfl) ?_
      refine k_ji hP hD hS hA [0] [1, 2, 3, 4, 5, 6, 7, 8, 9, 10, 11, 12, 13, 14] (wr := [((rm 0), .inl (cy 0, 1600, .inl g_tape)), ((rm 97), .inl (cy 2, 6, .inl g_secondAsked)), ((rm 98), .inl (cy 2, 3, .inl g_dayAsked)), ((rm 99), .inl (cy 2, 5, .inl g_phaseAsked)), ((rm 100), .inl (cy 2, 6, .inl g_waitedAsked)), ((rm 101), .inl (cy 2, 4, .inl g_calmAsked)), ((rm 102), .inl (cy 2, 4, .inl g_paceAsked)), ((rm 103), .inl (cy 2, 6, .inl g_trustsAsked)), ((rm 104), .inl (cy 2, 3, .inl g_gapAsked)), ((rm 105), .inl (cy 2, 4, .inl g_redsAsked)), ((rm 106), .inl (cy 2, 6, .inl g_numberAsked)), ((rm 107), .inl (cy 2, 4, .inl g_wentAsked)), ((rm 108), .inl (cy 2, 4, .inl g_harmAsked)), ((rm 109), .inl (cy 2, 4, .inl g_kindofAsked))]) rfl rfl (by decide) (by decide) (by decide) 0 0 (Nat.le_of_ble_eq_true rfl) (Nat.le_of_ble_eq_true rfl) (fun hPc hDc => k_runV (As := [.int r1]) (rest := []) C0 hZ hS hA (s_X10_isAllowed l dC dI cy sq a_this rm x_taped v3 x_end x_ended x_bad x_badPlace x_fault x_faultPlace x_namePlace x_awayTold x_away x_coded x_statements x_isCrossing x_textKind x_askSecond x_redMany x_isOpen x_lastGreen x_greenTo x_isCycleGreen x_stillGreen x_rowMany x_fitMany x_fitRules x_fitGreen x_undoable x_newest x_seeded x_qCoded x_qWaits x_qOpened x_qBase x_qPiled x_qAnswer x_qIsNew x_octets r1 ) mV_X10_620 hPc hDc rfl rfl rfl hl rfl rfl (Nat.le_of_ble_eq_true rfl) ⟨(Nat.le_of_ble_eq_true rfl), (Nat.le_of_ble_eq_true rfl)⟩ ⟨(Nat.le_of_ble_eq_true rfl), (Nat.le_of_ble_eq_true rfl)⟩ dX10_qWordOf_17) (fun r18 u19 H locs hw hP hD hS => ?_)
      try dsimp only at hP hD hw
      have hP : va_P (dC, dI) vwCl [((rm 0), .inl (cy 0, 1600, .inl g_tape)), ((rm 97), .inl (cy 2, 6, .inl g_secondAsked)), ((rm 98), .inl (cy 2, 3, .inl g_dayAsked)), ((rm 99), .inl (cy 2, 5, .inl g_phaseAsked)), ((rm 100), .inl (cy 2, 6, .inl g_waitedAsked)), ((rm 101), .inl (cy 2, 4, .inl g_calmAsked)), ((rm 102), .inl (cy 2, 4, .inl g_paceAsked)), ((rm 103), .inl (cy 2, 6, .inl g_trustsAsked)), ((rm 104), .inl (cy 2, 3, .inl g_gapAsked)), ((rm 105), .inl (cy 2, 4, .inl g_redsAsked)), ((rm 106), .inl (cy 2, 6, .inl g_numberAsked)), ((rm 107), .inl (cy 2, 4, .inl g_wentAsked)), ((rm 108), .inl (cy 2, 4, .inl g_harmAsked)), ((rm 109), .inl (cy 2, 4, .inl g_kindofAsked)), (a_this, .inr (10, mfs rm x_taped v3 x_end x_ended x_bad x_badPlace x_fault x_faultPlace x_namePlace x_awayTold x_away x_coded x_statements x_isCrossing x_textKind x_askSecond x_redMany x_isOpen x_lastGreen x_greenTo x_isCycleGreen x_stillGreen x_rowMany x_fitMany x_fitRules x_fitGreen x_undoable x_newest x_seeded x_qCoded x_qWaits x_qOpened x_qBase x_qPiled x_qAnswer x_qIsNew x_octets))] H := hP
      have hD : va_D A [((rm 0), .inl (cy 0, 1600, .inl g_tape)), ((rm 97), .inl (cy 2, 6, .inl g_secondAsked)), ((rm 98), .inl (cy 2, 3, .inl g_dayAsked)), ((rm 99), .inl (cy 2, 5, .inl g_phaseAsked)), ((rm 100), .inl (cy 2, 6, .inl g_waitedAsked)), ((rm 101), .inl (cy 2, 4, .inl g_calmAsked)), ((rm 102), .inl (cy 2, 4, .inl g_paceAsked)), ((rm 103), .inl (cy 2, 6, .inl g_trustsAsked)), ((rm 104), .inl (cy 2, 3, .inl g_gapAsked)), ((rm 105), .inl (cy 2, 4, .inl g_redsAsked)), ((rm 106), .inl (cy 2, 6, .inl g_numberAsked)), ((rm 107), .inl (cy 2, 4, .inl g_wentAsked)), ((rm 108), .inl (cy 2, 4, .inl g_harmAsked)), ((rm 109), .inl (cy 2, 4, .inl g_kindofAsked)), (a_this, .inr (10, mfs rm x_taped v3 x_end x_ended x_bad x_badPlace x_fault x_faultPlace x_namePlace x_awayTold x_away x_coded x_statements x_isCrossing x_textKind x_askSecond x_redMany x_isOpen x_lastGreen x_greenTo x_isCycleGreen x_stillGreen x_rowMany x_fitMany x_fitRules x_fitGreen x_undoable x_newest x_seeded x_qCoded x_qWaits x_qOpened x_qBase x_qPiled x_qAnswer x_qIsNew x_octets))] := hD
      obtain ⟨h20, h21⟩ := hw
      refine lv_if_eq (tgt := 27) hx hb dX10_qWordOf_20 (by decide) (fun c22 => ?_) (fun c22 => ?_)
      · have h23 := ib_eq h20 (ib_c 0 0 0 (by decide)) c22
        have h24 : ib r18 0 0 := ib_w 0 0 h23.1 (by decide)
        refine lv_iconst (v := (-1)) hx hb dX10_qWordOf_27 (by decide) ?_
        subst hQ; exact k_iret hx hb hr hlk rfl v3 hS ⟨ib_w 0 1600 h4 (by decide), ib_w (-1) 12 (ib_c (-1) (-1) (-1) (by decide)) (by decide), (by have := (h4).1; have := (h4).2; have := h6; have := (hx_at).1; have := (hx_at).2; omega), fun q => absurd rfl q, fun q9 => (by have e0n : v3 = x_at := h7 q9; exact e0n), fun q => absurd rfl q⟩ (hP.sub [14, 0, 1, 2, 3, 4, 5, 6, 7, 8, 9, 10, 11, 12, 13] rfl) (hD.sub [14, 0, 1, 2, 3, 4, 5, 6, 7, 8, 9, 10, 11, 12, 13] (by decide) rfl) (Nat.le_of_ble_eq_true rfl) (Nat.le_of_ble_eq_true rfl) dX10_qWordOf_28
      · have h25 : ib r18 1 1 := ib_w 1 1 (ib_ne_lo 0 h20 (by decide) c22) (by decide)
        refine lv_iload_n hx hb dX10_qWordOf_23 rfl (lv_at hl 0 rfl) ?_
        refine lv_goto (tgt := 28) hx hb dX10_qWordOf_24 (by decide) ?_
        subst hQ; exact k_iret hx hb hr hlk rfl v3 hS ⟨ib_w 0 1600 h4 (by decide), ib_w (-1) 12 h5 (by decide), (by have := (h4).1; have := (h4).2; have := h6; have := (hx_at).1; have := (hx_at).2; omega), fun _ q => h21 c22 q, fun q9 => (by have e0n : v3 = x_at := h7 q9; exact e0n), fun _ => ib_w (-1) 12 h5 (by decide)⟩ (hP.sub [14, 0, 1, 2, 3, 4, 5, 6, 7, 8, 9, 10, 11, 12, 13] rfl) (hD.sub [14, 0, 1, 2, 3, 4, 5, 6, 7, 8, 9, 10, 11, 12, 13] (by decide) rfl) (Nat.le_of_ble_eq_true rfl) (Nat.le_of_ble_eq_true rfl) dX10_qWordOf_28
set_option maxHeartbeats 4000000 in
set_option maxRecDepth 100000 in
theorem s_X10_refuses (l : Launch) (dC : Nat → ClassId) (dI : Nat → Nat → Nat) (cy : Nat → ClassId) (sq : Nat → Nat) (a_this : Nat) (rm : Nat → Nat) (x_taped : Int32) (x_at : Int32) (x_end : Int32) (x_ended : Int32) (x_bad : Int32) (x_badPlace : Int32) (x_fault : Int32) (x_faultPlace : Int32) (x_namePlace : Int32) (x_awayTold : Int32) (x_away : Int32) (x_coded : Int32) (x_statements : Int32) (x_isCrossing : Int32) (x_textKind : Int32) (x_askSecond : Int32) (x_redMany : Int32) (x_isOpen : Int32) (x_lastGreen : Int32) (x_greenTo : Int32) (x_isCycleGreen : Int32) (x_stillGreen : Int32) (x_rowMany : Int32) (x_fitMany : Int32) (x_fitRules : Int32) (x_fitGreen : Int32) (x_undoable : Int32) (x_newest : Int32) (x_seeded : Int64) (x_qCoded : Int32) (x_qWaits : Int32) (x_qOpened : Int32) (x_qBase : Int32) (x_qPiled : Int32) (x_qAnswer : Int64) (x_qIsNew : Int32) (x_octets : Int32) (g_refused : Nat → Int32) (p0 : Int32) (hp0 : ib p0 0 5) : k_Met l yX10_refuses cX10_refuses 2 (some .int) { frames := 0, cells := 0, slots := 0, locals := 0 } dC dI cy sq [.ref a_this, .int p0] [(a_this, .inr (10, mfs rm x_taped x_at x_end x_ended x_bad x_badPlace x_fault x_faultPlace x_namePlace x_awayTold x_away x_coded x_statements x_isCrossing x_textKind x_askSecond x_redMany x_isOpen x_lastGreen x_greenTo x_isCycleGreen x_stillGreen x_rowMany x_fitMany x_fitRules x_fitGreen x_undoable x_newest x_seeded x_qCoded x_qWaits x_qOpened x_qBase x_qPiled x_qAnswer x_qIsNew x_octets)), ((rm 9), .inl (cy 0, 6, .inl g_refused))] (k_Qi dC dI (fun (r : Int32) (n0 : (Nat → Int32)) => ib r (-1) (-1)) (fun n0 : (Nat → Int32) => [(a_this, .inr (10, mfs rm x_taped x_at x_end x_ended x_bad x_badPlace x_fault x_faultPlace x_namePlace x_awayTold x_away x_coded x_statements x_isCrossing x_textKind x_askSecond x_redMany x_isOpen x_lastGreen x_greenTo x_isCycleGreen x_stillGreen x_rowMany x_fitMany x_fitRules x_fitGreen x_undoable x_newest x_seeded x_qCoded x_qWaits x_qOpened x_qBase x_qPiled x_qAnswer x_qIsNew x_octets)), ((rm 9), .inl (cy 0, 6, .inl n0))])) := by
  refine k_ofW2 (by decide +kernel) (Nat.le_of_ble_eq_true rfl) ?_
  intro p e s m below meth c A ls H locs args Q hQ C0 hZ hr hlk hin hP hD hA hS hl
  have C0 : k_cx p s m args c cX10_refuses 2 RX10 dC dI cy sq := C0
  have hx := C0.1
  have hb := C0.2.1
  have hl : lv_has ls 2 [(0, .ref a_this), (1, .int p0)] := hl
  refine lv_aload_n hx hb dX10_refuses_0 rfl (lv_at hl 0 rfl) ?_
  refine k_get C0 fg_X10_17 hP 0 rfl rfl dX10_refuses_1 ?_
  refine lv_iload_n hx hb dX10_refuses_4 rfl (lv_at hl 1 rfl) ?_
  refine lv_dup2_11 hx hb dX10_refuses_5 rfl rfl ?_
  refine va_iald hx hb C0.2.2.2.2.2.1 hP 1 0 rfl rfl (ib_in 6 hp0 (by decide)) dX10_refuses_6 ?_
  refine lv_topi (fun z1 ez1 => ?_)
  refine lv_iconst (v := 1) hx hb dX10_refuses_7 (by decide) ?_
  refine lv_iadd hx hb dX10_refuses_8 ?_
  refine lv_topi (fun z2 ez2 => ?_)
  refine va_iast hx hb C0.2.2.2.2.2.1 hP hD hS 1 0 rfl rfl (ib_in 6 hp0 (by decide)) dX10_refuses_9 (fun H locs hP hD hS => ?_)
  have hP : va_P (dC, dI) vwCl [(a_this, .inr (10, mfs rm x_taped x_at x_end x_ended x_bad x_badPlace x_fault x_faultPlace x_namePlace x_awayTold x_away x_coded x_statements x_isCrossing x_textKind x_askSecond x_redMany x_isOpen x_lastGreen x_greenTo x_isCycleGreen x_stillGreen x_rowMany x_fitMany x_fitRules x_fitGreen x_undoable x_newest x_seeded x_qCoded x_qWaits x_qOpened x_qBase x_qPiled x_qAnswer x_qIsNew x_octets)), ((rm 9), .inl (cy 0, 6, .inl (upd g_refused (Int32.toNatClampNeg p0) z2)))] H := hP
  have hD : va_D A [(a_this, .inr (10, mfs rm x_taped x_at x_end x_ended x_bad x_badPlace x_fault x_faultPlace x_namePlace x_awayTold x_away x_coded x_statements x_isCrossing x_textKind x_askSecond x_redMany x_isOpen x_lastGreen x_greenTo x_isCycleGreen x_stillGreen x_rowMany x_fitMany x_fitRules x_fitGreen x_undoable x_newest x_seeded x_qCoded x_qWaits x_qOpened x_qBase x_qPiled x_qAnswer x_qIsNew x_octets)), ((rm 9), .inl (cy 0, 6, .inl (upd g_refused (Int32.toNatClampNeg p0) z2)))] := hD
  generalize upd g_refused (Int32.toNatClampNeg p0) z2 = f3 at hP hD
  refine lv_iconst (v := (-1)) hx hb dX10_refuses_10 (by decide) ?_
  subst hQ; exact k_iret hx hb hr hlk rfl f3 hS (ib_w (-1) (-1) (ib_c (-1) (-1) (-1) (by decide)) (by decide)) hP hD (Nat.le_of_ble_eq_true rfl) (Nat.le_of_ble_eq_true rfl) dX10_refuses_11
set_option maxHeartbeats 4000000 in
set_option maxRecDepth 100000 in
theorem s_X10_rule (l : Launch) (dC : Nat → ClassId) (dI : Nat → Nat → Nat) (cy : Nat → ClassId) (sq : Nat → Nat) (a_this : Nat) (rm : Nat → Nat) (x_taped : Int32) (x_at : Int32) (x_end : Int32) (x_ended : Int32) (x_bad : Int32) (x_badPlace : Int32) (x_fault : Int32) (x_faultPlace : Int32) (x_namePlace : Int32) (x_awayTold : Int32) (x_away : Int32) (x_coded : Int32) (x_statements : Int32) (x_isCrossing : Int32) (x_textKind : Int32) (x_askSecond : Int32) (x_redMany : Int32) (x_isOpen : Int32) (x_lastGreen : Int32) (x_greenTo : Int32) (x_isCycleGreen : Int32) (x_stillGreen : Int32) (x_rowMany : Int32) (x_fitMany : Int32) (x_fitRules : Int32) (x_fitGreen : Int32) (x_undoable : Int32) (x_newest : Int32) (x_seeded : Int64) (x_qCoded : Int32) (x_qWaits : Int32) (x_qOpened : Int32) (x_qBase : Int32) (x_qPiled : Int32) (x_qAnswer : Int64) (x_qIsNew : Int32) (x_octets : Int32) (g_refused : Nat → Int32) (g_now : Nat → Int32) (g_kept0 : Nat → Int32) (p0 : Int32) (hx_isCrossing : ib x_isCrossing 0 1) (hx_undoable : ib x_undoable 0 20) (hx_newest : ib x_newest 0 19) : k_Met l yX10_rule cX10_rule 2 (some .boolean) { frames := 1, cells := 0, slots := 0, locals := 25 } dC dI cy sq [.ref a_this, .int p0] [(a_this, .inr (10, mfs rm x_taped x_at x_end x_ended x_bad x_badPlace x_fault x_faultPlace x_namePlace x_awayTold x_away x_coded x_statements x_isCrossing x_textKind x_askSecond x_redMany x_isOpen x_lastGreen x_greenTo x_isCycleGreen x_stillGreen x_rowMany x_fitMany x_fitRules x_fitGreen x_undoable x_newest x_seeded x_qCoded x_qWaits x_qOpened x_qBase x_qPiled x_qAnswer x_qIsNew x_octets)), ((rm 56), .inl (cy 0, 9, .inl g_now)), ((rm 81), .inl (cy 0, 180, .inl g_kept0)), ((rm 9), .inl (cy 0, 6, .inl g_refused))] (k_Qi dC dI (fun (r : Int32) (u : Int32 × Int32 × (Nat → Int32) × (Nat → Int32) × (Nat → Int32)) => match u with | (n0, n1, n2, n3, n4) => ib n0 0 20 ∧ ib n1 0 19 ∧ ib r 0 1 ∧ (¬ r = 0 → ib n0 1 20) ∧ (¬ r = 0 → ib x_isCrossing 1 1) ∧ (¬ r = 0 → ib p0 0 2)) (fun u : Int32 × Int32 × (Nat → Int32) × (Nat → Int32) × (Nat → Int32) => match u with | (n0, n1, n2, n3, n4) => [(a_this, .inr (10, mfs rm x_taped x_at x_end x_ended x_bad x_badPlace x_fault x_faultPlace x_namePlace x_awayTold x_away x_coded x_statements x_isCrossing x_textKind x_askSecond x_redMany x_isOpen x_lastGreen x_greenTo x_isCycleGreen x_stillGreen x_rowMany x_fitMany x_fitRules x_fitGreen n0 n1 x_seeded x_qCoded x_qWaits x_qOpened x_qBase x_qPiled x_qAnswer x_qIsNew x_octets)), ((rm 56), .inl (cy 0, 9, .inl n2)), ((rm 81), .inl (cy 0, 180, .inl n3)), ((rm 9), .inl (cy 0, 6, .inl n4))])) := by
  refine k_ofW2 (by decide +kernel) (Nat.le_of_ble_eq_true rfl) ?_
  intro p e s m below meth c A ls H locs args Q hQ C0 hZ hr hlk hin hP hD hA hS hl
  have C0 : k_cx p s m args c cX10_rule 2 RX10 dC dI cy sq := C0
  have hx := C0.1
  have hb := C0.2.1
  have hl : lv_has ls 2 [(0, .ref a_this), (1, .int p0)] := hl
  have jn29 : ∀  (H : Heap) (locs : List Loc) (ls : Array Slot), va_P (dC, dI) vwCl [(a_this, .inr (10, mfs rm x_taped x_at x_end x_ended x_bad x_badPlace x_fault x_faultPlace x_namePlace x_awayTold x_away x_coded x_statements x_isCrossing x_textKind x_askSecond x_redMany x_isOpen x_lastGreen x_greenTo x_isCycleGreen x_stillGreen x_rowMany x_fitMany x_fitRules x_fitGreen x_undoable x_newest x_seeded x_qCoded x_qWaits x_qOpened x_qBase x_qPiled x_qAnswer x_qIsNew x_octets)), ((rm 56), .inl (cy 0, 9, .inl g_now)), ((rm 81), .inl (cy 0, 180, .inl g_kept0)), ((rm 9), .inl (cy 0, 6, .inl g_refused))] H → va_D A [(a_this, .inr (10, mfs rm x_taped x_at x_end x_ended x_bad x_badPlace x_fault x_faultPlace x_namePlace x_awayTold x_away x_coded x_statements x_isCrossing x_textKind x_askSecond x_redMany x_isOpen x_lastGreen x_greenTo x_isCycleGreen x_stillGreen x_rowMany x_fitMany x_fitRules x_fitGreen x_undoable x_newest x_seeded x_qCoded x_qWaits x_qOpened x_qBase x_qPiled x_qAnswer x_qIsNew x_octets)), ((rm 56), .inl (cy 0, 9, .inl g_now)), ((rm 81), .inl (cy 0, 180, .inl g_kept0)), ((rm 9), .inl (cy 0, 6, .inl g_refused))] → va_S A s.heap H locs → lv_has ls 2 [(0, .ref a_this), (1, .int p0)] → W p l e { frames := 1, cells := 0, slots := 0, locals := 25 } s m args below meth c H locs 0 0 Q (F0 m 29 ls []) := by
    intro H locs ls hP hD hS hl
    refine lv_aload_n hx hb dX10_rule_29 rfl (lv_at hl 0 rfl) ?_
    refine k_ji hP hD hS hA [0, 3] [1, 2] (wr := [((rm 56), .inl (cy 0, 9, .inl g_now)), ((rm 81), .inl (cy 0, 180, .inl g_kept0))]) rfl rfl (by decide) (by decide) (by decide) 0 0 (Nat.le_of_ble_eq_true rfl) (Nat.le_of_ble_eq_true rfl) (fun hPc hDc => k_runV (As := []) (rest := []) C0 hZ hS hA (s_X10_isRefused l dC dI cy sq a_this rm x_taped x_at x_end x_ended x_bad x_badPlace x_fault x_faultPlace x_namePlace x_awayTold x_away x_coded x_statements x_isCrossing x_textKind x_askSecond x_redMany x_isOpen x_lastGreen x_greenTo x_isCycleGreen x_stillGreen x_rowMany x_fitMany x_fitRules x_fitGreen x_undoable x_newest x_seeded x_qCoded x_qWaits x_qOpened x_qBase x_qPiled x_qAnswer x_qIsNew x_octets g_refused ) mV_X10_591 hPc hDc rfl rfl rfl hl rfl rfl (Nat.le_of_ble_eq_true rfl) ⟨(Nat.le_of_ble_eq_true rfl), (Nat.le_of_ble_eq_true rfl)⟩ ⟨(Nat.le_of_ble_eq_true rfl), (Nat.le_of_ble_eq_true rfl)⟩ dX10_rule_30) (fun r1 u2 H locs hw hP hD hS => ?_)
    obtain ⟨f3, ef3⟩ : ∃ z, z = u2 := ⟨_, rfl⟩; subst ef3
    try dsimp only at hP hD hw
    have hP : va_P (dC, dI) vwCl [((rm 56), .inl (cy 0, 9, .inl g_now)), ((rm 81), .inl (cy 0, 180, .inl g_kept0)), (a_this, .inr (10, mfs rm x_taped x_at x_end x_ended x_bad x_badPlace x_fault x_faultPlace x_namePlace x_awayTold x_away x_coded x_statements x_isCrossing x_textKind x_askSecond x_redMany x_isOpen x_lastGreen x_greenTo x_isCycleGreen x_stillGreen x_rowMany x_fitMany x_fitRules x_fitGreen x_undoable x_newest x_seeded x_qCoded x_qWaits x_qOpened x_qBase x_qPiled x_qAnswer x_qIsNew x_octets)), ((rm 9), .inl (cy 0, 6, .inl f3))] H := hP
    have hD : va_D A [((rm 56), .inl (cy 0, 9, .inl g_now)), ((rm 81), .inl (cy 0, 180, .inl g_kept0)), (a_this, .inr (10, mfs rm x_taped x_at x_end x_ended x_bad x_badPlace x_fault x_faultPlace x_namePlace x_awayTold x_away x_coded x_statements x_isCrossing x_textKind x_askSecond x_redMany x_isOpen x_lastGreen x_greenTo x_isCycleGreen x_stillGreen x_rowMany x_fitMany x_fitRules x_fitGreen x_undoable x_newest x_seeded x_qCoded x_qWaits x_qOpened x_qBase x_qPiled x_qAnswer x_qIsNew x_octets)), ((rm 9), .inl (cy 0, 6, .inl f3))] := hD
    have h4 := hw
    subst hQ; exact k_iret hx hb hr hlk (ib_bool (ib_w 0 1 h4 (by decide))) ((x_undoable, x_newest, g_now, g_kept0, f3)) hS ⟨ib_w 0 20 hx_undoable (by decide), ib_w 0 19 hx_newest (by decide), ib_w 0 1 h4 (by decide), fun hq9 => absurd (ib_one h4 (by decide)) hq9, fun hq9 => absurd (ib_one h4 (by decide)) hq9, fun hq9 => absurd (ib_one h4 (by decide)) hq9⟩ (hP.sub [2, 0, 1, 3] rfl) (hD.sub [2, 0, 1, 3] (by decide) rfl) (Nat.le_of_ble_eq_true rfl) (Nat.le_of_ble_eq_true rfl) dX10_rule_33
  refine lv_aload_n hx hb dX10_rule_0 rfl (lv_at hl 0 rfl) ?_
  refine k_get C0 fg_X10_417 hP 0 rfl rfl dX10_rule_1 ?_
  refine lv_if_eq (tgt := 29) hx hb dX10_rule_4 (by decide) (fun c5 => ?_) (fun c5 => ?_)
  · have h6 := ib_eq hx_isCrossing (ib_c 0 0 0 (by decide)) c5
    have h7 : ib x_isCrossing 0 0 := ib_w 0 0 h6.1 (by decide)
    exact jn29  H locs ls  hP hD hS (lv_sub hl [0, 1] rfl)
  · have h8 : ib x_isCrossing 1 1 := ib_w 1 1 (ib_ne_lo 0 hx_isCrossing (by decide) c5) (by decide)
    refine lv_iload_n hx hb dX10_rule_7 rfl (lv_at hl 1 rfl) ?_
    refine lv_i2l (v := p0.toInt64) hx hb dX10_rule_8 rfl ?_
    refine lv_lconst (v := 0) hx hb dX10_rule_9 (by decide) ?_
    refine lv_ldc2 hx hb C0.2.2.2.1 (C0.2.2.2.2.1 _ wd1089) dX10_rule_10 ?_
    refine k_ji hP hD hS hA [] [0, 1, 2, 3] (wr := [(a_this, .inr (10, mfs rm x_taped x_at x_end x_ended x_bad x_badPlace x_fault x_faultPlace x_namePlace x_awayTold x_away x_coded x_statements x_isCrossing x_textKind x_askSecond x_redMany x_isOpen x_lastGreen x_greenTo x_isCycleGreen x_stillGreen x_rowMany x_fitMany x_fitRules x_fitGreen x_undoable x_newest x_seeded x_qCoded x_qWaits x_qOpened x_qBase x_qPiled x_qAnswer x_qIsNew x_octets)), ((rm 56), .inl (cy 0, 9, .inl g_now)), ((rm 81), .inl (cy 0, 180, .inl g_kept0)), ((rm 9), .inl (cy 0, 6, .inl g_refused))]) rfl rfl (by decide) (by decide) (by decide) 0 0 (Nat.le_of_ble_eq_true rfl) (Nat.le_of_ble_eq_true rfl) (fun hPc hDc => k_runS (As := [.long p0.toInt64, .long 0, .long 2]) (rest := []) C0 hZ hS hA (c_isIn l dC dI cy sq p0.toInt64 0 2) mS_X10_318 hPc hDc hl rfl rfl (Nat.le_of_ble_eq_true rfl) ⟨(Nat.le_of_ble_eq_true rfl), (Nat.le_of_ble_eq_true rfl)⟩ ⟨(Nat.le_of_ble_eq_true rfl), (Nat.le_of_ble_eq_true rfl)⟩ dX10_rule_13) (fun r9 u10 H locs hw hP hD hS => ?_)
    have hP : va_P (dC, dI) vwCl [(a_this, .inr (10, mfs rm x_taped x_at x_end x_ended x_bad x_badPlace x_fault x_faultPlace x_namePlace x_awayTold x_away x_coded x_statements x_isCrossing x_textKind x_askSecond x_redMany x_isOpen x_lastGreen x_greenTo x_isCycleGreen x_stillGreen x_rowMany x_fitMany x_fitRules x_fitGreen x_undoable x_newest x_seeded x_qCoded x_qWaits x_qOpened x_qBase x_qPiled x_qAnswer x_qIsNew x_octets)), ((rm 56), .inl (cy 0, 9, .inl g_now)), ((rm 81), .inl (cy 0, 180, .inl g_kept0)), ((rm 9), .inl (cy 0, 6, .inl g_refused))] H := hP
    have hD : va_D A [(a_this, .inr (10, mfs rm x_taped x_at x_end x_ended x_bad x_badPlace x_fault x_faultPlace x_namePlace x_awayTold x_away x_coded x_statements x_isCrossing x_textKind x_askSecond x_redMany x_isOpen x_lastGreen x_greenTo x_isCycleGreen x_stillGreen x_rowMany x_fitMany x_fitRules x_fitGreen x_undoable x_newest x_seeded x_qCoded x_qWaits x_qOpened x_qBase x_qPiled x_qAnswer x_qIsNew x_octets)), ((rm 56), .inl (cy 0, 9, .inl g_now)), ((rm 81), .inl (cy 0, 180, .inl g_kept0)), ((rm 9), .inl (cy 0, 6, .inl g_refused))] := hD
    have h11 := hw
    have h12 : ib r9 0 1 := by rw [h11]; exact k_isf_01 _ _ _
    refine lv_if_eq (tgt := 29) hx hb dX10_rule_16 (by decide) (fun c13 => ?_) (fun c13 => ?_)
    · have h14 := ib_eq h12 (ib_c 0 0 0 (by decide)) c13
      have h15 : ib r9 0 0 := ib_w 0 0 h14.1 (by decide)
      exact jn29  H locs ls  hP hD hS (lv_sub hl [0, 1] rfl)
    · have h16 : ib r9 1 1 := ib_w 1 1 (ib_ne_lo 0 h12 (by decide) c13) (by decide)
      have h17 : ib p0 0 2 := ib_w 0 2 (ib_two (ib_any p0) (k_isf_v h11 (show 0 ≤ (0 : Int64).toInt by decide) (show (2 : Int64).toInt ≤ 2 by decide) (ib_nz h16 (by decide)))) (by decide)
      refine lv_aload_n hx hb dX10_rule_19 rfl (lv_at hl 0 rfl) ?_
      refine k_get C0 fg_X10_139 hP 0 rfl rfl dX10_rule_20 ?_
      refine lv_iconst (v := 1) hx hb dX10_rule_23 (by decide) ?_
      refine va_iald hx hb C0.2.2.2.2.2.1 hP 1 0 rfl rfl (k_in 1 9 (by decide)) dX10_rule_24 ?_
      refine lv_topi (fun z18 ez18 => ?_)
      refine lv_iload_n hx hb dX10_rule_25 rfl (lv_at hl 1 rfl) ?_
      refine lv_icmp_ne (tgt := 34) hx hb dX10_rule_26 (by decide) (fun c19 => ?_) (fun c19 => ?_)
      · skip
        refine lv_aload_n hx hb dX10_rule_34 rfl (lv_at hl 0 rfl) ?_
        refine k_jv hP hD hS hA [0, 1, 2] [3] (wr := [((rm 9), .inl (cy 0, 6, .inl g_refused))]) rfl rfl (by decide) (by decide) (by decide) 0 0 (Nat.le_of_ble_eq_true rfl) (Nat.le_of_ble_eq_true rfl) (fun hPc hDc => k_runV (As := []) (rest := []) C0 hZ hS hA (s_X10_keeps l dC dI cy sq a_this rm x_taped x_at x_end x_ended x_bad x_badPlace x_fault x_faultPlace x_namePlace x_awayTold x_away x_coded x_statements x_isCrossing x_textKind x_askSecond x_redMany x_isOpen x_lastGreen x_greenTo x_isCycleGreen x_stillGreen x_rowMany x_fitMany x_fitRules x_fitGreen x_undoable x_newest x_seeded x_qCoded x_qWaits x_qOpened x_qBase x_qPiled x_qAnswer x_qIsNew x_octets g_now g_kept0 (ib_w 0 20 hx_undoable (by decide)) (ib_w 0 19 hx_newest (by decide))) mV_X10_594 hPc hDc rfl rfl rfl hl rfl rfl (Nat.le_of_ble_eq_true rfl) ⟨(Nat.le_of_ble_eq_true rfl), (Nat.le_of_ble_eq_true rfl)⟩ ⟨(Nat.le_of_ble_eq_true rfl), (Nat.le_of_ble_eq_true rfl)⟩ dX10_rule_35) (fun u21 H locs hw hP hD hS => ?_)
        obtain ⟨v22, v23, f24⟩ := u21
        try dsimp only at hP hD hw
        have hP : va_P (dC, dI) vwCl [((rm 9), .inl (cy 0, 6, .inl g_refused)), (a_this, .inr (10, mfs rm x_taped x_at x_end x_ended x_bad x_badPlace x_fault x_faultPlace x_namePlace x_awayTold x_away x_coded x_statements x_isCrossing x_textKind x_askSecond x_redMany x_isOpen x_lastGreen x_greenTo x_isCycleGreen x_stillGreen x_rowMany x_fitMany x_fitRules x_fitGreen v22 v23 x_seeded x_qCoded x_qWaits x_qOpened x_qBase x_qPiled x_qAnswer x_qIsNew x_octets)), ((rm 56), .inl (cy 0, 9, .inl g_now)), ((rm 81), .inl (cy 0, 180, .inl f24))] H := hP
        have hD : va_D A [((rm 9), .inl (cy 0, 6, .inl g_refused)), (a_this, .inr (10, mfs rm x_taped x_at x_end x_ended x_bad x_badPlace x_fault x_faultPlace x_namePlace x_awayTold x_away x_coded x_statements x_isCrossing x_textKind x_askSecond x_redMany x_isOpen x_lastGreen x_greenTo x_isCycleGreen x_stillGreen x_rowMany x_fitMany x_fitRules x_fitGreen v22 v23 x_seeded x_qCoded x_qWaits x_qOpened x_qBase x_qPiled x_qAnswer x_qIsNew x_octets)), ((rm 56), .inl (cy 0, 9, .inl g_now)), ((rm 81), .inl (cy 0, 180, .inl f24))] := hD
        obtain ⟨h25, h26⟩ := hw
        refine lv_aload_n hx hb dX10_rule_38 rfl (lv_at hl 0 rfl) ?_
        refine k_get C0 fg_X10_139 hP 1 rfl rfl dX10_rule_39 ?_
        refine lv_iconst (v := 1) hx hb dX10_rule_42 (by decide) ?_
        refine lv_iload_n hx hb dX10_rule_43 rfl (lv_at hl 1 rfl) ?_
        refine va_iast hx hb C0.2.2.2.2.2.1 hP hD hS 2 0 rfl rfl (k_in 1 9 (by decide)) dX10_rule_44 (fun H locs hP hD hS => ?_)
        have hP : va_P (dC, dI) vwCl [((rm 9), .inl (cy 0, 6, .inl g_refused)), (a_this, .inr (10, mfs rm x_taped x_at x_end x_ended x_bad x_badPlace x_fault x_faultPlace x_namePlace x_awayTold x_away x_coded x_statements x_isCrossing x_textKind x_askSecond x_redMany x_isOpen x_lastGreen x_greenTo x_isCycleGreen x_stillGreen x_rowMany x_fitMany x_fitRules x_fitGreen v22 v23 x_seeded x_qCoded x_qWaits x_qOpened x_qBase x_qPiled x_qAnswer x_qIsNew x_octets)), ((rm 56), .inl (cy 0, 9, .inl (upd g_now 1 p0))), ((rm 81), .inl (cy 0, 180, .inl f24))] H := hP
        have hD : va_D A [((rm 9), .inl (cy 0, 6, .inl g_refused)), (a_this, .inr (10, mfs rm x_taped x_at x_end x_ended x_bad x_badPlace x_fault x_faultPlace x_namePlace x_awayTold x_away x_coded x_statements x_isCrossing x_textKind x_askSecond x_redMany x_isOpen x_lastGreen x_greenTo x_isCycleGreen x_stillGreen x_rowMany x_fitMany x_fitRules x_fitGreen v22 v23 x_seeded x_qCoded x_qWaits x_qOpened x_qBase x_qPiled x_qAnswer x_qIsNew x_octets)), ((rm 56), .inl (cy 0, 9, .inl (upd g_now 1 p0))), ((rm 81), .inl (cy 0, 180, .inl f24))] := hD
        generalize upd g_now 1 p0 = f27 at hP hD
        refine lv_iconst (v := 1) hx hb dX10_rule_45 (by decide) ?_
        subst hQ; exact k_iret hx hb hr hlk (k_nb 1 (by decide)) ((v22, v23, f27, f24, g_refused)) hS ⟨ib_w 0 20 h25 (by decide), ib_w 0 19 h26 (by decide), ib_w 0 1 (ib_c 1 1 1 (by decide)) (by decide), fun _ => ib_w 1 20 h25 (by decide), fun _ => ib_w 1 1 h8 (by decide), fun _ => ib_w 0 2 h17 (by decide)⟩ (hP.sub [1, 2, 3, 0] rfl) (hD.sub [1, 2, 3, 0] (by decide) rfl) (Nat.le_of_ble_eq_true rfl) (Nat.le_of_ble_eq_true rfl) dX10_rule_46
      · have h28 := ib_eq (ib_any z18) h17 c19
        have h29 : ib z18 0 2 := ib_w 0 2 h28.1 (by decide)
        exact jn29  H locs ls  hP hD hS (lv_sub hl [0, 1] rfl)
set_option maxHeartbeats 4000000 in
set_option maxRecDepth 100000 in
theorem s_X10_refuses_a0_1 (l : Launch) (dC : Nat → ClassId) (dI : Nat → Nat → Nat) (cy : Nat → ClassId) (sq : Nat → Nat) (a_this : Nat) (rm : Nat → Nat) (x_taped : Int32) (x_at : Int32) (x_end : Int32) (x_ended : Int32) (x_bad : Int32) (x_badPlace : Int32) (x_fault : Int32) (x_faultPlace : Int32) (x_namePlace : Int32) (x_awayTold : Int32) (x_away : Int32) (x_coded : Int32) (x_statements : Int32) (x_isCrossing : Int32) (x_textKind : Int32) (x_askSecond : Int32) (x_redMany : Int32) (x_isOpen : Int32) (x_lastGreen : Int32) (x_greenTo : Int32) (x_isCycleGreen : Int32) (x_stillGreen : Int32) (x_rowMany : Int32) (x_fitMany : Int32) (x_fitRules : Int32) (x_fitGreen : Int32) (x_undoable : Int32) (x_newest : Int32) (x_seeded : Int64) (x_qCoded : Int32) (x_qWaits : Int32) (x_qOpened : Int32) (x_qBase : Int32) (x_qPiled : Int32) (x_qAnswer : Int64) (x_qIsNew : Int32) (x_octets : Int32) (g_refused : Nat → Int32)  : k_Met l yX10_refuses cX10_refuses 2 (some .int) { frames := 0, cells := 0, slots := 0, locals := 0 } dC dI cy sq [.ref a_this, .int 1] [(a_this, .inr (10, mfs rm x_taped x_at x_end x_ended x_bad x_badPlace x_fault x_faultPlace x_namePlace x_awayTold x_away x_coded x_statements x_isCrossing x_textKind x_askSecond x_redMany x_isOpen x_lastGreen x_greenTo x_isCycleGreen x_stillGreen x_rowMany x_fitMany x_fitRules x_fitGreen x_undoable x_newest x_seeded x_qCoded x_qWaits x_qOpened x_qBase x_qPiled x_qAnswer x_qIsNew x_octets)), ((rm 9), .inl (cy 0, 6, .inl g_refused))] (k_Qi dC dI (fun (r : Int32) (n0 : (Nat → Int32)) => ib r (-1) (-1)) (fun n0 : (Nat → Int32) => [(a_this, .inr (10, mfs rm x_taped x_at x_end x_ended x_bad x_badPlace x_fault x_faultPlace x_namePlace x_awayTold x_away x_coded x_statements x_isCrossing x_textKind x_askSecond x_redMany x_isOpen x_lastGreen x_greenTo x_isCycleGreen x_stillGreen x_rowMany x_fitMany x_fitRules x_fitGreen x_undoable x_newest x_seeded x_qCoded x_qWaits x_qOpened x_qBase x_qPiled x_qAnswer x_qIsNew x_octets)), ((rm 9), .inl (cy 0, 6, .inl n0))])) := by
  refine k_ofW2 (by decide +kernel) (Nat.le_of_ble_eq_true rfl) ?_
  intro p e s m below meth c A ls H locs args Q hQ C0 hZ hr hlk hin hP hD hA hS hl
  have C0 : k_cx p s m args c cX10_refuses 2 RX10 dC dI cy sq := C0
  have hx := C0.1
  have hb := C0.2.1
  have hl : lv_has ls 2 [(0, .ref a_this), (1, .int 1)] := hl
  refine lv_aload_n hx hb dX10_refuses_0 rfl (lv_at hl 0 rfl) ?_
  refine k_get C0 fg_X10_17 hP 0 rfl rfl dX10_refuses_1 ?_
  refine lv_iload_n hx hb dX10_refuses_4 rfl (lv_at hl 1 rfl) ?_
  refine lv_dup2_11 hx hb dX10_refuses_5 rfl rfl ?_
  refine va_iald hx hb C0.2.2.2.2.2.1 hP 1 0 rfl rfl (k_in 1 6 (by decide)) dX10_refuses_6 ?_
  refine lv_topi (fun z1 ez1 => ?_)
  refine lv_iconst (v := 1) hx hb dX10_refuses_7 (by decide) ?_
  refine lv_iadd hx hb dX10_refuses_8 ?_
  refine lv_topi (fun z2 ez2 => ?_)
  refine va_iast hx hb C0.2.2.2.2.2.1 hP hD hS 1 0 rfl rfl (k_in 1 6 (by decide)) dX10_refuses_9 (fun H locs hP hD hS => ?_)
  have hP : va_P (dC, dI) vwCl [(a_this, .inr (10, mfs rm x_taped x_at x_end x_ended x_bad x_badPlace x_fault x_faultPlace x_namePlace x_awayTold x_away x_coded x_statements x_isCrossing x_textKind x_askSecond x_redMany x_isOpen x_lastGreen x_greenTo x_isCycleGreen x_stillGreen x_rowMany x_fitMany x_fitRules x_fitGreen x_undoable x_newest x_seeded x_qCoded x_qWaits x_qOpened x_qBase x_qPiled x_qAnswer x_qIsNew x_octets)), ((rm 9), .inl (cy 0, 6, .inl (upd g_refused 1 z2)))] H := hP
  have hD : va_D A [(a_this, .inr (10, mfs rm x_taped x_at x_end x_ended x_bad x_badPlace x_fault x_faultPlace x_namePlace x_awayTold x_away x_coded x_statements x_isCrossing x_textKind x_askSecond x_redMany x_isOpen x_lastGreen x_greenTo x_isCycleGreen x_stillGreen x_rowMany x_fitMany x_fitRules x_fitGreen x_undoable x_newest x_seeded x_qCoded x_qWaits x_qOpened x_qBase x_qPiled x_qAnswer x_qIsNew x_octets)), ((rm 9), .inl (cy 0, 6, .inl (upd g_refused 1 z2)))] := hD
  generalize upd g_refused 1 z2 = f3 at hP hD
  refine lv_iconst (v := (-1)) hx hb dX10_refuses_10 (by decide) ?_
  subst hQ; exact k_iret hx hb hr hlk rfl f3 hS (ib_w (-1) (-1) (ib_c (-1) (-1) (-1) (by decide)) (by decide)) hP hD (Nat.le_of_ble_eq_true rfl) (Nat.le_of_ble_eq_true rfl) dX10_refuses_11
set_option maxHeartbeats 4000000 in
set_option maxRecDepth 100000 in
theorem s_X10_see (l : Launch) (dC : Nat → ClassId) (dI : Nat → Nat → Nat) (cy : Nat → ClassId) (sq : Nat → Nat) (a_this : Nat) (rm : Nat → Nat) (x_taped : Int32) (x_at : Int32) (x_end : Int32) (x_ended : Int32) (x_bad : Int32) (x_badPlace : Int32) (x_fault : Int32) (x_faultPlace : Int32) (x_namePlace : Int32) (x_awayTold : Int32) (x_away : Int32) (x_coded : Int32) (x_statements : Int32) (x_isCrossing : Int32) (x_textKind : Int32) (x_askSecond : Int32) (x_redMany : Int32) (x_isOpen : Int32) (x_lastGreen : Int32) (x_greenTo : Int32) (x_isCycleGreen : Int32) (x_stillGreen : Int32) (x_rowMany : Int32) (x_fitMany : Int32) (x_fitRules : Int32) (x_fitGreen : Int32) (x_undoable : Int32) (x_newest : Int32) (x_seeded : Int64) (x_qCoded : Int32) (x_qWaits : Int32) (x_qOpened : Int32) (x_qBase : Int32) (x_qPiled : Int32) (x_qAnswer : Int64) (x_qIsNew : Int32) (x_octets : Int32) (g_tape : Nat → Int32) (g_refused : Nat → Int32) (g_many : Nat → Int32) (g_rows : Nat → Int32) (hx_taped : ib x_taped 0 1600) (hx_rowMany : ib x_rowMany 0 16) (hg_tape : ia g_tape 1600 0 255) (hg_many_3 : ib (g_many 3) 0 12) (hpg_rows : ip g_rows 32 2 0 0 11) : k_Met l yX10_see cX10_see 5 (some .int) { frames := 2, cells := 0, slots := 0, locals := 46 } dC dI cy sq [.ref a_this] [(a_this, .inr (10, mfs rm x_taped x_at x_end x_ended x_bad x_badPlace x_fault x_faultPlace x_namePlace x_awayTold x_away x_coded x_statements x_isCrossing x_textKind x_askSecond x_redMany x_isOpen x_lastGreen x_greenTo x_isCycleGreen x_stillGreen x_rowMany x_fitMany x_fitRules x_fitGreen x_undoable x_newest x_seeded x_qCoded x_qWaits x_qOpened x_qBase x_qPiled x_qAnswer x_qIsNew x_octets)), ((rm 0), .inl (cy 0, 1600, .inl g_tape)), ((rm 41), .inl (cy 0, 4, .inl g_many)), ((rm 9), .inl (cy 0, 6, .inl g_refused)), ((rm 76), .inl (cy 0, 32, .inl g_rows))] (k_Qi dC dI (fun (r : Int32) (u : Int32 × (Nat → Int32) × (Nat → Int32)) => match u with | (n0, n1, n2) => ib n0 0 16 ∧ ip n2 32 2 0 0 11 ∧ ib r (-1) 16) (fun u : Int32 × (Nat → Int32) × (Nat → Int32) => match u with | (n0, n1, n2) => [(a_this, .inr (10, mfs rm 0 x_at x_end x_ended x_bad x_badPlace x_fault x_faultPlace x_namePlace x_awayTold x_away x_coded x_statements x_isCrossing x_textKind x_askSecond x_redMany x_isOpen x_lastGreen x_greenTo x_isCycleGreen x_stillGreen n0 x_fitMany x_fitRules x_fitGreen x_undoable x_newest x_seeded x_qCoded x_qWaits x_qOpened x_qBase x_qPiled x_qAnswer x_qIsNew x_octets)), ((rm 0), .inl (cy 0, 1600, .inl g_tape)), ((rm 41), .inl (cy 0, 4, .inl g_many)), ((rm 9), .inl (cy 0, 6, .inl n1)), ((rm 76), .inl (cy 0, 32, .inl n2))])) := by
  refine k_ofW2 (by decide +kernel) (Nat.le_of_ble_eq_true rfl) ?_
  intro p e s m below meth c A ls H locs args Q hQ C0 hZ hr hlk hin hP hD hA hS hl
  have C0 : k_cx p s m args c cX10_see 5 RX10 dC dI cy sq := C0
  have hx := C0.1
  have hb := C0.2.1
  have hl : lv_has ls 5 [(0, .ref a_this)] := hl
  have jn121 : ∀ (n : Nat) (J121_l2 : Int32) (J121_l3 : Int32) (J121_a4 : Nat → Int32) (H : Heap) (locs : List Loc) (ls : Array Slot), ib x_taped 1 50 → ib J121_l2 1 1 → ib J121_l3 0 16 → ip J121_a4 32 2 0 0 11 → (∀ j : Nat, 3 * (j : Int) < x_taped.toInt → ib (g_tape (3 * j)) 0 11) → 17 ≤ J121_l3.toInt + (n : Int) → va_P (dC, dI) vwCl [(a_this, .inr (10, mfs rm 0 x_at x_end x_ended x_bad x_badPlace x_fault x_faultPlace x_namePlace x_awayTold x_away x_coded x_statements x_isCrossing x_textKind x_askSecond x_redMany x_isOpen x_lastGreen x_greenTo x_isCycleGreen x_stillGreen x_rowMany x_fitMany x_fitRules x_fitGreen x_undoable x_newest x_seeded x_qCoded x_qWaits x_qOpened x_qBase x_qPiled x_qAnswer x_qIsNew x_octets)), ((rm 0), .inl (cy 0, 1600, .inl g_tape)), ((rm 41), .inl (cy 0, 4, .inl g_many)), ((rm 9), .inl (cy 0, 6, .inl g_refused)), ((rm 76), .inl (cy 0, 32, .inl J121_a4))] H → va_D A [(a_this, .inr (10, mfs rm 0 x_at x_end x_ended x_bad x_badPlace x_fault x_faultPlace x_namePlace x_awayTold x_away x_coded x_statements x_isCrossing x_textKind x_askSecond x_redMany x_isOpen x_lastGreen x_greenTo x_isCycleGreen x_stillGreen x_rowMany x_fitMany x_fitRules x_fitGreen x_undoable x_newest x_seeded x_qCoded x_qWaits x_qOpened x_qBase x_qPiled x_qAnswer x_qIsNew x_octets)), ((rm 0), .inl (cy 0, 1600, .inl g_tape)), ((rm 41), .inl (cy 0, 4, .inl g_many)), ((rm 9), .inl (cy 0, 6, .inl g_refused)), ((rm 76), .inl (cy 0, 32, .inl J121_a4))] → va_S A s.heap H locs → lv_has ls 5 [(0, .ref a_this), (1, .int x_taped), (2, .int J121_l2), (3, .int J121_l3)] → W p l e { frames := 2, cells := 0, slots := 0, locals := 46 } s m args below meth c H locs 0 0 Q (F0 m 121 ls []) := by
    intro n
    induction n with
    | zero =>
      intro J121_l2 J121_l3 J121_a4 H locs ls hK121_x_taped hJ121_l2 hJ121_l3 hJ121_a4p hJ121_gh hm
      exact absurd hm (by have := hJ121_l3; unfold ib at this; omega)
    | succ n ih =>
      intro J121_l2 J121_l3 J121_a4 H locs ls hK121_x_taped hJ121_l2 hJ121_l3 hJ121_a4p hJ121_gh hm121 hP hD hS hl
      have ih121 := ih
      refine lv_iload_n hx hb dX10_see_121 rfl (lv_at hl 3 rfl) ?_
      refine lv_iload_n hx hb dX10_see_122 rfl (lv_at hl 1 rfl) ?_
      refine lv_iconst (v := 3) hx hb dX10_see_123 (by decide) ?_
      refine lv_idiv hx hb dX10_see_124 (by decide) ?_
      refine lv_topi (fun z1 ez1 => ?_)
      have h2 : 3 * z1.toInt ≤ x_taped.toInt ∧ x_taped.toInt < 3 * z1.toInt + 3 := by rw [ez1]; exact ib_dv2 3 3 rfl hK121_x_taped (by decide) (by decide)
      have h3 : ib z1 0 16 := by rw [ez1]; exact ib_w 0 16 (ib_div hK121_x_taped (ib_c 3 3 3 (by decide)) (by decide)) (by decide)
      refine lv_icmp_ge (tgt := 201) hx hb dX10_see_125 (by decide) (fun c4 => ?_) (fun c4 => ?_)
      · have h5 := ib_le h3 hJ121_l3 c4
        refine lv_aload_n hx hb dX10_see_201 rfl (lv_at hl 0 rfl) ?_
        refine lv_iload_n hx hb dX10_see_202 rfl (lv_at hl 1 rfl) ?_
        refine lv_iconst (v := 3) hx hb dX10_see_203 (by decide) ?_
        refine lv_idiv hx hb dX10_see_204 (by decide) ?_
        refine lv_topi (fun z6 ez6 => ?_)
        have h7 : 3 * z6.toInt ≤ x_taped.toInt ∧ x_taped.toInt < 3 * z6.toInt + 3 := by rw [ez6]; exact ib_dv2 3 3 rfl hK121_x_taped (by decide) (by decide)
        have h8 : ib z6 0 16 := by rw [ez6]; exact ib_w 0 16 (ib_div hK121_x_taped (ib_c 3 3 3 (by decide)) (by decide)) (by decide)
        refine k_put C0 fp_X10_427 hP hD hS 0 rfl rfl rfl (Nat.le_of_ble_eq_true rfl) dX10_see_205 (fun H locs hP hD hS => ?_)
        have hP : va_P (dC, dI) vwCl [(a_this, .inr (10, mfs rm 0 x_at x_end x_ended x_bad x_badPlace x_fault x_faultPlace x_namePlace x_awayTold x_away x_coded x_statements x_isCrossing x_textKind x_askSecond x_redMany x_isOpen x_lastGreen x_greenTo x_isCycleGreen x_stillGreen z6 x_fitMany x_fitRules x_fitGreen x_undoable x_newest x_seeded x_qCoded x_qWaits x_qOpened x_qBase x_qPiled x_qAnswer x_qIsNew x_octets)), ((rm 0), .inl (cy 0, 1600, .inl g_tape)), ((rm 41), .inl (cy 0, 4, .inl g_many)), ((rm 9), .inl (cy 0, 6, .inl g_refused)), ((rm 76), .inl (cy 0, 32, .inl J121_a4))] H := hP
        have hD : va_D A [(a_this, .inr (10, mfs rm 0 x_at x_end x_ended x_bad x_badPlace x_fault x_faultPlace x_namePlace x_awayTold x_away x_coded x_statements x_isCrossing x_textKind x_askSecond x_redMany x_isOpen x_lastGreen x_greenTo x_isCycleGreen x_stillGreen z6 x_fitMany x_fitRules x_fitGreen x_undoable x_newest x_seeded x_qCoded x_qWaits x_qOpened x_qBase x_qPiled x_qAnswer x_qIsNew x_octets)), ((rm 0), .inl (cy 0, 1600, .inl g_tape)), ((rm 41), .inl (cy 0, 4, .inl g_many)), ((rm 9), .inl (cy 0, 6, .inl g_refused)), ((rm 76), .inl (cy 0, 32, .inl J121_a4))] := hD
        refine lv_aload_n hx hb dX10_see_208 rfl (lv_at hl 0 rfl) ?_
        refine k_get C0 fg_X10_427 hP 0 rfl rfl dX10_see_209 ?_
        subst hQ; exact k_iret hx hb hr hlk rfl ((z6, g_refused, J121_a4)) hS ⟨ib_w 0 16 h8 (by decide), hJ121_a4p, ib_w (-1) 16 h8 (by decide)⟩ hP hD (Nat.le_of_ble_eq_true rfl) (Nat.le_of_ble_eq_true rfl) dX10_see_212
      · have h9 := ib_nle h3 hJ121_l3 c4
        have h10 : ib z1 1 16 := ib_w 1 16 h9.1 (by decide)
        have h11 : ib J121_l3 0 15 := ib_w 0 15 h9.2 (by decide)
        have h12 : ib x_taped 3 50 := ⟨by have q1 := (h2).1; have q2 := (h2).2; have := (h10).1; have := (h10).2; have := (hK121_x_taped).1; have := (hK121_x_taped).2; omega, by have q1 := (h2).1; have q2 := (h2).2; have := (h10).1; have := (h10).2; have := (hK121_x_taped).1; have := (hK121_x_taped).2; omega⟩
        refine lv_sipush (v := 256) hx hb dX10_see_128 (by decide) ?_
        refine lv_aload_n hx hb dX10_see_131 rfl (lv_at hl 0 rfl) ?_
        refine k_get C0 fg_X10_7 hP 0 rfl rfl dX10_see_132 ?_
        refine lv_iconst (v := 3) hx hb dX10_see_135 (by decide) ?_
        refine lv_iload_n hx hb dX10_see_136 rfl (lv_at hl 3 rfl) ?_
        refine lv_imul hx hb dX10_see_137 ?_
        refine lv_topi (fun z13 ez13 => ?_)
        have h14 := ib_mul (ib_c 3 3 3 (by decide)) h11 (by decide)
        rw [← ez13] at h14
        have h15 : ib z13 0 45 := ib_w 0 45 h14.1 (by decide)
        have h16 : z13.toInt = 3 * J121_l3.toInt := by have q0 := h14.2; rw [show (3 : Int32).toInt = 3 from by decide] at q0; omega
        refine lv_iconst (v := 1) hx hb dX10_see_138 (by decide) ?_
        refine lv_iadd hx hb dX10_see_139 ?_
        refine lv_topi (fun z17 ez17 => ?_)
        have h18 := ib_add h15 (ib_c 1 1 1 (by decide)) (by decide)
        rw [← ez17] at h18
        have h19 : ib z17 1 46 := ib_w 1 46 h18.1 (by decide)
        refine va_iald hx hb C0.2.2.2.2.2.1 hP 1 0 rfl rfl (ib_in 1600 h19 (by decide)) dX10_see_140 ?_
        refine lv_topi (fun z20 ez20 => ?_)
        have h21 : ib z20 0 255 := by rw [ez20]; exact ia_at hg_tape (ib_in 1600 h19 (by decide))
        refine lv_imul hx hb dX10_see_141 ?_
        refine lv_topi (fun z22 ez22 => ?_)
        have h23 := ib_mul (ib_c 256 256 256 (by decide)) h21 (by decide)
        rw [← ez22] at h23
        have h24 : ib z22 0 65280 := ib_w 0 65280 h23.1 (by decide)
        have h25 : z22.toInt = 256 * z20.toInt := by have q0 := h23.2; rw [show (256 : Int32).toInt = 256 from by decide] at q0; omega
        refine lv_aload_n hx hb dX10_see_142 rfl (lv_at hl 0 rfl) ?_
        refine k_get C0 fg_X10_7 hP 0 rfl rfl dX10_see_143 ?_
        refine lv_iconst (v := 3) hx hb dX10_see_146 (by decide) ?_
        refine lv_iload_n hx hb dX10_see_147 rfl (lv_at hl 3 rfl) ?_
        refine lv_imul hx hb dX10_see_148 ?_
        refine lv_topi (fun z26 ez26 => ?_)
        obtain rfl : z13 = z26 := ez13.trans ez26.symm
        refine lv_iconst (v := 2) hx hb dX10_see_149 (by decide) ?_
        refine lv_iadd hx hb dX10_see_150 ?_
        refine lv_topi (fun z27 ez27 => ?_)
        have h28 := ib_add h15 (ib_c 2 2 2 (by decide)) (by decide)
        rw [← ez27] at h28
        have h29 : ib z27 2 47 := ib_w 2 47 h28.1 (by decide)
        refine va_iald hx hb C0.2.2.2.2.2.1 hP 1 0 rfl rfl (ib_in 1600 h29 (by decide)) dX10_see_151 ?_
        refine lv_topi (fun z30 ez30 => ?_)
        have h31 : ib z30 0 255 := by rw [ez30]; exact ia_at hg_tape (ib_in 1600 h29 (by decide))
        refine lv_iadd hx hb dX10_see_152 ?_
        refine lv_topi (fun z32 ez32 => ?_)
        have h33 := ib_add h24 h31 (by decide)
        rw [← ez32] at h33
        have h34 : ib z32 0 65535 := ib_w 0 65535 h33.1 (by decide)
        refine lv_istore (lv' := [(4, .int z32), (0, .ref a_this), (1, .int x_taped), (2, .int J121_l2), (3, .int J121_l3)]) hx hb dX10_see_153 hl (by decide) rfl (fun ls hl => ?_)
        refine lv_aload_n hx hb dX10_see_155 rfl (lv_at hl 1 rfl) ?_
        refine k_get C0 fg_X10_176 hP 0 rfl rfl dX10_see_156 ?_
        refine lv_iconst (v := 2) hx hb dX10_see_159 (by decide) ?_
        refine lv_iload_n hx hb dX10_see_160 rfl (lv_at hl 4 rfl) ?_
        refine lv_imul hx hb dX10_see_161 ?_
        refine lv_topi (fun z35 ez35 => ?_)
        have h36 := ib_mul (ib_c 2 2 2 (by decide)) h11 (by decide)
        rw [← ez35] at h36
        have h37 : ib z35 0 30 := ib_w 0 30 h36.1 (by decide)
        have h38 : z35.toInt = 2 * J121_l3.toInt := by have q0 := h36.2; rw [show (2 : Int32).toInt = 2 from by decide] at q0; omega
        refine lv_aload_n hx hb dX10_see_162 rfl (lv_at hl 1 rfl) ?_
        refine k_get C0 fg_X10_7 hP 0 rfl rfl dX10_see_163 ?_
        refine lv_iconst (v := 3) hx hb dX10_see_166 (by decide) ?_
        refine lv_iload_n hx hb dX10_see_167 rfl (lv_at hl 4 rfl) ?_
        refine lv_imul hx hb dX10_see_168 ?_
        refine lv_topi (fun z39 ez39 => ?_)
        obtain rfl : z13 = z39 := ez13.trans ez39.symm
        refine va_iald hx hb C0.2.2.2.2.2.1 hP 1 0 rfl rfl (ib_in 1600 h15 (by decide)) dX10_see_169 ?_
        refine lv_topi (fun z40 ez40 => ?_)
        have h41 : ib z40 0 11 := by rw [ez40]; exact sd_use2 hJ121_gh z13 J121_l3 h16 (by have := (h11).1; omega) (by have := (h12).1; have := (h12).2; have := (h11).1; have := (h11).2; have := (h2).1; have := (h2).2; have := mt Int32.le_iff_toInt_le.mpr c4; omega)
        refine va_iast hx hb C0.2.2.2.2.2.1 hP hD hS 4 0 rfl rfl (ib_in 32 h37 (by decide)) dX10_see_170 (fun H locs hP hD hS => ?_)
        have h43 := ip_upd (x := z40) hJ121_a4p (Int32.toNatClampNeg z35) (fun _ => ib_w 0 11 h41 (by decide))
        have hP : va_P (dC, dI) vwCl [(a_this, .inr (10, mfs rm 0 x_at x_end x_ended x_bad x_badPlace x_fault x_faultPlace x_namePlace x_awayTold x_away x_coded x_statements x_isCrossing x_textKind x_askSecond x_redMany x_isOpen x_lastGreen x_greenTo x_isCycleGreen x_stillGreen x_rowMany x_fitMany x_fitRules x_fitGreen x_undoable x_newest x_seeded x_qCoded x_qWaits x_qOpened x_qBase x_qPiled x_qAnswer x_qIsNew x_octets)), ((rm 0), .inl (cy 0, 1600, .inl g_tape)), ((rm 41), .inl (cy 0, 4, .inl g_many)), ((rm 9), .inl (cy 0, 6, .inl g_refused)), ((rm 76), .inl (cy 0, 32, .inl (upd J121_a4 (Int32.toNatClampNeg z35) z40)))] H := hP
        have hD : va_D A [(a_this, .inr (10, mfs rm 0 x_at x_end x_ended x_bad x_badPlace x_fault x_faultPlace x_namePlace x_awayTold x_away x_coded x_statements x_isCrossing x_textKind x_askSecond x_redMany x_isOpen x_lastGreen x_greenTo x_isCycleGreen x_stillGreen x_rowMany x_fitMany x_fitRules x_fitGreen x_undoable x_newest x_seeded x_qCoded x_qWaits x_qOpened x_qBase x_qPiled x_qAnswer x_qIsNew x_octets)), ((rm 0), .inl (cy 0, 1600, .inl g_tape)), ((rm 41), .inl (cy 0, 4, .inl g_many)), ((rm 9), .inl (cy 0, 6, .inl g_refused)), ((rm 76), .inl (cy 0, 32, .inl (upd J121_a4 (Int32.toNatClampNeg z35) z40)))] := hD
        generalize upd J121_a4 (Int32.toNatClampNeg z35) z40 = f42 at hP hD h43
        refine lv_aload_n hx hb dX10_see_171 rfl (lv_at hl 1 rfl) ?_
        refine k_get C0 fg_X10_176 hP 0 rfl rfl dX10_see_172 ?_
        refine lv_iconst (v := 2) hx hb dX10_see_175 (by decide) ?_
        refine lv_iload_n hx hb dX10_see_176 rfl (lv_at hl 4 rfl) ?_
        refine lv_imul hx hb dX10_see_177 ?_
        refine lv_topi (fun z44 ez44 => ?_)
        obtain rfl : z35 = z44 := ez35.trans ez44.symm
        refine lv_iconst (v := 1) hx hb dX10_see_178 (by decide) ?_
        refine lv_iadd hx hb dX10_see_179 ?_
        refine lv_topi (fun z45 ez45 => ?_)
        have h46 := ib_add h37 (ib_c 1 1 1 (by decide)) (by decide)
        rw [← ez45] at h46
        have h47 : ib z45 1 31 := ib_w 1 31 h46.1 (by decide)
        refine lv_iload hx hb dX10_see_180 (lv_at hl 0 rfl) ?_
        refine lv_ldcw hx hb C0.2.2.2.1 (C0.2.2.2.2.1 _ wd1206) dX10_see_182 ?_
        refine lv_icmp_ne (tgt := 192) hx hb dX10_see_185 (by decide) (fun c48 => ?_) (fun c48 => ?_)
        · have h49 : ib z32 0 65534 := ib_w 0 65534 (ib_ne_hi 65535 h34 (by decide) c48) (by decide)
          refine lv_iload hx hb dX10_see_192 (lv_at hl 0 rfl) ?_
          refine va_iast hx hb C0.2.2.2.2.2.1 hP hD hS 4 0 rfl rfl (ib_in 32 h47 (by decide)) dX10_see_194 (fun H locs hP hD hS => ?_)
          have h51 := ip_upd (x := z32) h43 (Int32.toNatClampNeg z45) (fun q => absurd q (by show ¬ (Int32.toInt z45).toNat % 2 = 0; have := (h47).1; have := (h47).2; have := h46.2; have : (1 : Int32).toInt = 1 := (by decide); have := (h37).1; have := (h37).2; have := h38; have := (h11).1; have := (h11).2; omega))
          have hP : va_P (dC, dI) vwCl [(a_this, .inr (10, mfs rm 0 x_at x_end x_ended x_bad x_badPlace x_fault x_faultPlace x_namePlace x_awayTold x_away x_coded x_statements x_isCrossing x_textKind x_askSecond x_redMany x_isOpen x_lastGreen x_greenTo x_isCycleGreen x_stillGreen x_rowMany x_fitMany x_fitRules x_fitGreen x_undoable x_newest x_seeded x_qCoded x_qWaits x_qOpened x_qBase x_qPiled x_qAnswer x_qIsNew x_octets)), ((rm 0), .inl (cy 0, 1600, .inl g_tape)), ((rm 41), .inl (cy 0, 4, .inl g_many)), ((rm 9), .inl (cy 0, 6, .inl g_refused)), ((rm 76), .inl (cy 0, 32, .inl (upd f42 (Int32.toNatClampNeg z45) z32)))] H := hP
          have hD : va_D A [(a_this, .inr (10, mfs rm 0 x_at x_end x_ended x_bad x_badPlace x_fault x_faultPlace x_namePlace x_awayTold x_away x_coded x_statements x_isCrossing x_textKind x_askSecond x_redMany x_isOpen x_lastGreen x_greenTo x_isCycleGreen x_stillGreen x_rowMany x_fitMany x_fitRules x_fitGreen x_undoable x_newest x_seeded x_qCoded x_qWaits x_qOpened x_qBase x_qPiled x_qAnswer x_qIsNew x_octets)), ((rm 0), .inl (cy 0, 1600, .inl g_tape)), ((rm 41), .inl (cy 0, 4, .inl g_many)), ((rm 9), .inl (cy 0, 6, .inl g_refused)), ((rm 76), .inl (cy 0, 32, .inl (upd f42 (Int32.toNatClampNeg z45) z32)))] := hD
          generalize upd f42 (Int32.toNatClampNeg z45) z32 = f50 at hP hD h51
          obtain ⟨z52, ez52⟩ : ∃ y : Int32, y = J121_l3 + 1 := ⟨_, rfl⟩
          refine lv_iinc (v := z52) (lv' := [(3, .int z52), (4, .int z32), (0, .ref a_this), (1, .int x_taped), (2, .int J121_l2)]) hx hb dX10_see_195 hl (k := 4) rfl (by rw [ez52]; rfl) (by decide) rfl (fun ls hl => ?_)
          have h53 := ib_add h11 (ib_c 1 1 1 (by decide)) (by decide)
          rw [← ez52] at h53
          have h54 : ib z52 1 16 := ib_w 1 16 h53.1 (by decide)
          refine lv_goto (tgt := 121) hx hb dX10_see_198 (by decide) ?_
          exact ih121 J121_l2 z52 f50 H locs ls (ib_w 1 50 h12 (by decide)) (ib_w 1 1 hJ121_l2 (by decide)) (ib_w 0 16 h54 (by decide)) h51 (hJ121_gh) (by have := h53.2; have : (1 : Int32).toInt = 1 := (by decide); omega) hP hD hS (lv_sub hl [2, 3, 4, 0] rfl)
        · have h55 := ib_eq h34 (ib_c 65535 65535 65535 (by decide)) c48
          have h56 : ib z32 65535 65535 := ib_w 65535 65535 h55.1 (by decide)
          have h57 : ib z22 65280 65280 := ⟨by have := h33.2; have := (h56).1; have := (h56).2; have := (h24).1; have := (h24).2; have := (h31).1; have := (h31).2; omega, by have := h33.2; have := (h56).1; have := (h56).2; have := (h24).1; have := (h24).2; have := (h31).1; have := (h31).2; omega⟩
          have h58 : ib z30 255 255 := ⟨by have := h33.2; have := (h56).1; have := (h56).2; have := (h24).1; have := (h24).2; have := (h31).1; have := (h31).2; omega, by have := h33.2; have := (h56).1; have := (h56).2; have := (h24).1; have := (h24).2; have := (h31).1; have := (h31).2; omega⟩
          refine lv_iconst (v := (-1)) hx hb dX10_see_188 (by decide) ?_
          refine lv_goto (tgt := 194) hx hb dX10_see_189 (by decide) ?_
          refine va_iast hx hb C0.2.2.2.2.2.1 hP hD hS 4 0 rfl rfl (ib_in 32 h47 (by decide)) dX10_see_194 (fun H locs hP hD hS => ?_)
          have h60 := ip_upd (x := (-1)) h43 (Int32.toNatClampNeg z45) (fun q => absurd q (by show ¬ (Int32.toInt z45).toNat % 2 = 0; have := (h47).1; have := (h47).2; have := h46.2; have : (1 : Int32).toInt = 1 := (by decide); have := (h37).1; have := (h37).2; have := h38; have := (h11).1; have := (h11).2; omega))
          have hP : va_P (dC, dI) vwCl [(a_this, .inr (10, mfs rm 0 x_at x_end x_ended x_bad x_badPlace x_fault x_faultPlace x_namePlace x_awayTold x_away x_coded x_statements x_isCrossing x_textKind x_askSecond x_redMany x_isOpen x_lastGreen x_greenTo x_isCycleGreen x_stillGreen x_rowMany x_fitMany x_fitRules x_fitGreen x_undoable x_newest x_seeded x_qCoded x_qWaits x_qOpened x_qBase x_qPiled x_qAnswer x_qIsNew x_octets)), ((rm 0), .inl (cy 0, 1600, .inl g_tape)), ((rm 41), .inl (cy 0, 4, .inl g_many)), ((rm 9), .inl (cy 0, 6, .inl g_refused)), ((rm 76), .inl (cy 0, 32, .inl (upd f42 (Int32.toNatClampNeg z45) (-1))))] H := hP
          have hD : va_D A [(a_this, .inr (10, mfs rm 0 x_at x_end x_ended x_bad x_badPlace x_fault x_faultPlace x_namePlace x_awayTold x_away x_coded x_statements x_isCrossing x_textKind x_askSecond x_redMany x_isOpen x_lastGreen x_greenTo x_isCycleGreen x_stillGreen x_rowMany x_fitMany x_fitRules x_fitGreen x_undoable x_newest x_seeded x_qCoded x_qWaits x_qOpened x_qBase x_qPiled x_qAnswer x_qIsNew x_octets)), ((rm 0), .inl (cy 0, 1600, .inl g_tape)), ((rm 41), .inl (cy 0, 4, .inl g_many)), ((rm 9), .inl (cy 0, 6, .inl g_refused)), ((rm 76), .inl (cy 0, 32, .inl (upd f42 (Int32.toNatClampNeg z45) (-1))))] := hD
          generalize upd f42 (Int32.toNatClampNeg z45) (-1) = f59 at hP hD h60
          obtain ⟨z61, ez61⟩ : ∃ y : Int32, y = J121_l3 + 1 := ⟨_, rfl⟩
          refine lv_iinc (v := z61) (lv' := [(3, .int z61), (4, .int z32), (0, .ref a_this), (1, .int x_taped), (2, .int J121_l2)]) hx hb dX10_see_195 hl (k := 4) rfl (by rw [ez61]; rfl) (by decide) rfl (fun ls hl => ?_)
          have h62 := ib_add h11 (ib_c 1 1 1 (by decide)) (by decide)
          rw [← ez61] at h62
          have h63 : ib z61 1 16 := ib_w 1 16 h62.1 (by decide)
          refine lv_goto (tgt := 121) hx hb dX10_see_198 (by decide) ?_
          exact ih121 J121_l2 z61 f59 H locs ls (ib_w 1 50 h12 (by decide)) (ib_w 1 1 hJ121_l2 (by decide)) (ib_w 0 16 h63 (by decide)) h60 (hJ121_gh) (by have := h62.2; have : (1 : Int32).toInt = 1 := (by decide); omega) hP hD hS (lv_sub hl [2, 3, 4, 0] rfl)
  have jn109 : ∀ (J109_l2 : Int32) (J109_l3 : Int32) (H : Heap) (locs : List Loc) (ls : Array Slot), ib J109_l2 0 1 → ib J109_l3 0 52 → (¬ J109_l2 = 0 → (∀ j : Nat, 3 * (j : Int) < x_taped.toInt → ib (g_tape (3 * j)) 0 11) ∧ ib x_taped 1 50) → va_P (dC, dI) vwCl [(a_this, .inr (10, mfs rm 0 x_at x_end x_ended x_bad x_badPlace x_fault x_faultPlace x_namePlace x_awayTold x_away x_coded x_statements x_isCrossing x_textKind x_askSecond x_redMany x_isOpen x_lastGreen x_greenTo x_isCycleGreen x_stillGreen x_rowMany x_fitMany x_fitRules x_fitGreen x_undoable x_newest x_seeded x_qCoded x_qWaits x_qOpened x_qBase x_qPiled x_qAnswer x_qIsNew x_octets)), ((rm 0), .inl (cy 0, 1600, .inl g_tape)), ((rm 41), .inl (cy 0, 4, .inl g_many)), ((rm 9), .inl (cy 0, 6, .inl g_refused)), ((rm 76), .inl (cy 0, 32, .inl g_rows))] H → va_D A [(a_this, .inr (10, mfs rm 0 x_at x_end x_ended x_bad x_badPlace x_fault x_faultPlace x_namePlace x_awayTold x_away x_coded x_statements x_isCrossing x_textKind x_askSecond x_redMany x_isOpen x_lastGreen x_greenTo x_isCycleGreen x_stillGreen x_rowMany x_fitMany x_fitRules x_fitGreen x_undoable x_newest x_seeded x_qCoded x_qWaits x_qOpened x_qBase x_qPiled x_qAnswer x_qIsNew x_octets)), ((rm 0), .inl (cy 0, 1600, .inl g_tape)), ((rm 41), .inl (cy 0, 4, .inl g_many)), ((rm 9), .inl (cy 0, 6, .inl g_refused)), ((rm 76), .inl (cy 0, 32, .inl g_rows))] → va_S A s.heap H locs → lv_has ls 5 [(0, .ref a_this), (1, .int x_taped), (2, .int J109_l2), (3, .int J109_l3)] → W p l e { frames := 2, cells := 0, slots := 0, locals := 46 } s m args below meth c H locs 0 0 Q (F0 m 109 ls []) := by
    intro J109_l2 J109_l3 H locs ls hJ109_l2 hJ109_l3 hJ109_gh hP hD hS hl
    refine lv_iload_n hx hb dX10_see_109 rfl (lv_at hl 2 rfl) ?_
    refine lv_if_ne (tgt := 119) hx hb dX10_see_110 (by decide) (fun c64 => ?_) (fun c64 => ?_)
    · have h65 : ib J109_l2 1 1 := ib_w 1 1 (ib_ne_lo 0 hJ109_l2 (by decide) c64) (by decide)
      have h66 : ib x_taped 1 50 := (hJ109_gh c64).2
      refine lv_iconst (v := 0) hx hb dX10_see_119 (by decide) ?_
      refine lv_istore_n (lv' := [(3, .int 0), (0, .ref a_this), (1, .int x_taped), (2, .int J109_l2)]) hx hb dX10_see_120 rfl hl (by decide) rfl (fun ls hl => ?_)
      exact jn121 18 J109_l2 0 g_rows H locs ls (ib_w 1 50 h66 (by decide)) (ib_w 1 1 h65 (by decide)) (ib_w 0 16 (ib_c 0 0 0 (by decide)) (by decide)) hpg_rows ((hJ109_gh c64).1) (by have := (ib_c 0 0 0 (by decide)); unfold ib at this; omega) hP hD hS (lv_sub hl [1, 2, 3, 0] rfl)
    · have h67 := ib_eq hJ109_l2 (ib_c 0 0 0 (by decide)) c64
      have h68 : ib J109_l2 0 0 := ib_w 0 0 h67.1 (by decide)
      refine lv_aload_n hx hb dX10_see_113 rfl (lv_at hl 0 rfl) ?_
      refine lv_iconst (v := 1) hx hb dX10_see_114 (by decide) ?_
      refine k_ji hP hD hS hA [0, 3] [1, 2, 4] (wr := [((rm 0), .inl (cy 0, 1600, .inl g_tape)), ((rm 41), .inl (cy 0, 4, .inl g_many)), ((rm 76), .inl (cy 0, 32, .inl g_rows))]) rfl rfl (by decide) (by decide) (by decide) 0 0 (Nat.le_of_ble_eq_true rfl) (Nat.le_of_ble_eq_true rfl) (fun hPc hDc => k_runV (As := [.int 1]) (rest := []) C0 hZ hS hA (s_X10_refuses_a0_1 l dC dI cy sq a_this rm 0 x_at x_end x_ended x_bad x_badPlace x_fault x_faultPlace x_namePlace x_awayTold x_away x_coded x_statements x_isCrossing x_textKind x_askSecond x_redMany x_isOpen x_lastGreen x_greenTo x_isCycleGreen x_stillGreen x_rowMany x_fitMany x_fitRules x_fitGreen x_undoable x_newest x_seeded x_qCoded x_qWaits x_qOpened x_qBase x_qPiled x_qAnswer x_qIsNew x_octets g_refused ) mV_X10_567 hPc hDc rfl rfl rfl hl rfl rfl (Nat.le_of_ble_eq_true rfl) ⟨(Nat.le_of_ble_eq_true rfl), (Nat.le_of_ble_eq_true rfl)⟩ ⟨(Nat.le_of_ble_eq_true rfl), (Nat.le_of_ble_eq_true rfl)⟩ dX10_see_115) (fun r69 u70 H locs hw hP hD hS => ?_)
      obtain ⟨f71, ef71⟩ : ∃ z, z = u70 := ⟨_, rfl⟩; subst ef71
      try dsimp only at hP hD hw
      have hP : va_P (dC, dI) vwCl [((rm 0), .inl (cy 0, 1600, .inl g_tape)), ((rm 41), .inl (cy 0, 4, .inl g_many)), ((rm 76), .inl (cy 0, 32, .inl g_rows)), (a_this, .inr (10, mfs rm 0 x_at x_end x_ended x_bad x_badPlace x_fault x_faultPlace x_namePlace x_awayTold x_away x_coded x_statements x_isCrossing x_textKind x_askSecond x_redMany x_isOpen x_lastGreen x_greenTo x_isCycleGreen x_stillGreen x_rowMany x_fitMany x_fitRules x_fitGreen x_undoable x_newest x_seeded x_qCoded x_qWaits x_qOpened x_qBase x_qPiled x_qAnswer x_qIsNew x_octets)), ((rm 9), .inl (cy 0, 6, .inl f71))] H := hP
      have hD : va_D A [((rm 0), .inl (cy 0, 1600, .inl g_tape)), ((rm 41), .inl (cy 0, 4, .inl g_many)), ((rm 76), .inl (cy 0, 32, .inl g_rows)), (a_this, .inr (10, mfs rm 0 x_at x_end x_ended x_bad x_badPlace x_fault x_faultPlace x_namePlace x_awayTold x_away x_coded x_statements x_isCrossing x_textKind x_askSecond x_redMany x_isOpen x_lastGreen x_greenTo x_isCycleGreen x_stillGreen x_rowMany x_fitMany x_fitRules x_fitGreen x_undoable x_newest x_seeded x_qCoded x_qWaits x_qOpened x_qBase x_qPiled x_qAnswer x_qIsNew x_octets)), ((rm 9), .inl (cy 0, 6, .inl f71))] := hD
      have h72 := hw
      subst hQ; exact k_iret hx hb hr hlk rfl ((x_rowMany, f71, g_rows)) hS ⟨ib_w 0 16 hx_rowMany (by decide), hpg_rows, ib_w (-1) 16 h72 (by decide)⟩ (hP.sub [3, 0, 1, 4, 2] rfl) (hD.sub [3, 0, 1, 4, 2] (by decide) rfl) (Nat.le_of_ble_eq_true rfl) (Nat.le_of_ble_eq_true rfl) dX10_see_118
  have jn36 : ∀ (n : Nat) (J36_l2 : Int32) (J36_l3 : Int32) (H : Heap) (locs : List Loc) (ls : Array Slot), ib J36_l2 0 1 → ib J36_l3 0 52 → (¬ J36_l2 = 0 → sd g_tape J36_l3 ∧ ib x_taped 1 50) → 53 ≤ J36_l3.toInt + (n : Int) → va_P (dC, dI) vwCl [(a_this, .inr (10, mfs rm 0 x_at x_end x_ended x_bad x_badPlace x_fault x_faultPlace x_namePlace x_awayTold x_away x_coded x_statements x_isCrossing x_textKind x_askSecond x_redMany x_isOpen x_lastGreen x_greenTo x_isCycleGreen x_stillGreen x_rowMany x_fitMany x_fitRules x_fitGreen x_undoable x_newest x_seeded x_qCoded x_qWaits x_qOpened x_qBase x_qPiled x_qAnswer x_qIsNew x_octets)), ((rm 0), .inl (cy 0, 1600, .inl g_tape)), ((rm 41), .inl (cy 0, 4, .inl g_many)), ((rm 9), .inl (cy 0, 6, .inl g_refused)), ((rm 76), .inl (cy 0, 32, .inl g_rows))] H → va_D A [(a_this, .inr (10, mfs rm 0 x_at x_end x_ended x_bad x_badPlace x_fault x_faultPlace x_namePlace x_awayTold x_away x_coded x_statements x_isCrossing x_textKind x_askSecond x_redMany x_isOpen x_lastGreen x_greenTo x_isCycleGreen x_stillGreen x_rowMany x_fitMany x_fitRules x_fitGreen x_undoable x_newest x_seeded x_qCoded x_qWaits x_qOpened x_qBase x_qPiled x_qAnswer x_qIsNew x_octets)), ((rm 0), .inl (cy 0, 1600, .inl g_tape)), ((rm 41), .inl (cy 0, 4, .inl g_many)), ((rm 9), .inl (cy 0, 6, .inl g_refused)), ((rm 76), .inl (cy 0, 32, .inl g_rows))] → va_S A s.heap H locs → lv_has ls 5 [(0, .ref a_this), (1, .int x_taped), (2, .int J36_l2), (3, .int J36_l3)] → W p l e { frames := 2, cells := 0, slots := 0, locals := 46 } s m args below meth c H locs 0 0 Q (F0 m 36 ls []) := by
    intro n
    induction n with
    | zero =>
      intro J36_l2 J36_l3 H locs ls hJ36_l2 hJ36_l3 hJ36_gh hm
      exact absurd hm (by have := hJ36_l3; unfold ib at this; omega)
    | succ n ih =>
      intro J36_l2 J36_l3 H locs ls hJ36_l2 hJ36_l3 hJ36_gh hm36 hP hD hS hl
      have ih36 := ih
      have jn102 : ∀ (J102_l4 : Int32) (J102_s0 : Int32) (H : Heap) (locs : List Loc) (ls : Array Slot), ib x_taped 1 50 → ib J36_l2 1 1 → ib J36_l3 0 49 → ib J102_l4 0 65535 → ib J102_s0 0 1 → (¬ J102_s0 = 0 → ib (g_tape (Int32.toNatClampNeg J36_l3)) 0 11) → va_P (dC, dI) vwCl [(a_this, .inr (10, mfs rm 0 x_at x_end x_ended x_bad x_badPlace x_fault x_faultPlace x_namePlace x_awayTold x_away x_coded x_statements x_isCrossing x_textKind x_askSecond x_redMany x_isOpen x_lastGreen x_greenTo x_isCycleGreen x_stillGreen x_rowMany x_fitMany x_fitRules x_fitGreen x_undoable x_newest x_seeded x_qCoded x_qWaits x_qOpened x_qBase x_qPiled x_qAnswer x_qIsNew x_octets)), ((rm 0), .inl (cy 0, 1600, .inl g_tape)), ((rm 41), .inl (cy 0, 4, .inl g_many)), ((rm 9), .inl (cy 0, 6, .inl g_refused)), ((rm 76), .inl (cy 0, 32, .inl g_rows))] H → va_D A [(a_this, .inr (10, mfs rm 0 x_at x_end x_ended x_bad x_badPlace x_fault x_faultPlace x_namePlace x_awayTold x_away x_coded x_statements x_isCrossing x_textKind x_askSecond x_redMany x_isOpen x_lastGreen x_greenTo x_isCycleGreen x_stillGreen x_rowMany x_fitMany x_fitRules x_fitGreen x_undoable x_newest x_seeded x_qCoded x_qWaits x_qOpened x_qBase x_qPiled x_qAnswer x_qIsNew x_octets)), ((rm 0), .inl (cy 0, 1600, .inl g_tape)), ((rm 41), .inl (cy 0, 4, .inl g_many)), ((rm 9), .inl (cy 0, 6, .inl g_refused)), ((rm 76), .inl (cy 0, 32, .inl g_rows))] → va_S A s.heap H locs → lv_has ls 5 [(0, .ref a_this), (1, .int x_taped), (2, .int J36_l2), (3, .int J36_l3), (4, .int J102_l4)] → W p l e { frames := 2, cells := 0, slots := 0, locals := 46 } s m args below meth c H locs 0 0 Q (F0 m 102 ls [.int J102_s0]) := by
        intro J102_l4 J102_s0 H locs ls hK102_x_taped hK102_J36_l2 hK102_J36_l3 hJ102_l4 hJ102_s0 hJ102_gh hP hD hS hl
        refine lv_istore_n (lv' := [(2, .int J102_s0), (0, .ref a_this), (1, .int x_taped), (3, .int J36_l3), (4, .int J102_l4)]) hx hb dX10_see_102 rfl hl (by decide) rfl (fun ls hl => ?_)
        obtain ⟨z73, ez73⟩ : ∃ y : Int32, y = J36_l3 + 3 := ⟨_, rfl⟩
        refine lv_iinc (v := z73) (lv' := [(3, .int z73), (2, .int J102_s0), (0, .ref a_this), (1, .int x_taped), (4, .int J102_l4)]) hx hb dX10_see_103 hl (k := 3) rfl (by rw [ez73]; rfl) (by decide) rfl (fun ls hl => ?_)
        have h74 := ib_add hK102_J36_l3 (ib_c 3 3 3 (by decide)) (by decide)
        rw [← ez73] at h74
        have h75 : ib z73 3 52 := ib_w 3 52 h74.1 (by decide)
        refine lv_goto (tgt := 36) hx hb dX10_see_106 (by decide) ?_
        exact ih36 J102_s0 z73 H locs ls (ib_w 0 1 hJ102_s0 (by decide)) (ib_w 0 52 h75 (by decide)) (fun q => ⟨sd_step (hJ36_gh (ib_nz hK102_J36_l2 (by decide))).1 (ib_w 0 50 hK102_J36_l3 (by decide)) (hJ102_gh q) h74.2, (hJ36_gh (ib_nz hK102_J36_l2 (by decide))).2⟩) (by have := h74.2; have : (3 : Int32).toInt = 3 := (by decide); omega) hP hD hS (lv_sub hl [2, 3, 1, 0] rfl)
      have jn101 : ∀ (J101_l4 : Int32) (H : Heap) (locs : List Loc) (ls : Array Slot), ib x_taped 1 50 → ib J36_l2 1 1 → ib J36_l3 0 49 → ib J101_l4 0 65535 → va_P (dC, dI) vwCl [(a_this, .inr (10, mfs rm 0 x_at x_end x_ended x_bad x_badPlace x_fault x_faultPlace x_namePlace x_awayTold x_away x_coded x_statements x_isCrossing x_textKind x_askSecond x_redMany x_isOpen x_lastGreen x_greenTo x_isCycleGreen x_stillGreen x_rowMany x_fitMany x_fitRules x_fitGreen x_undoable x_newest x_seeded x_qCoded x_qWaits x_qOpened x_qBase x_qPiled x_qAnswer x_qIsNew x_octets)), ((rm 0), .inl (cy 0, 1600, .inl g_tape)), ((rm 41), .inl (cy 0, 4, .inl g_many)), ((rm 9), .inl (cy 0, 6, .inl g_refused)), ((rm 76), .inl (cy 0, 32, .inl g_rows))] H → va_D A [(a_this, .inr (10, mfs rm 0 x_at x_end x_ended x_bad x_badPlace x_fault x_faultPlace x_namePlace x_awayTold x_away x_coded x_statements x_isCrossing x_textKind x_askSecond x_redMany x_isOpen x_lastGreen x_greenTo x_isCycleGreen x_stillGreen x_rowMany x_fitMany x_fitRules x_fitGreen x_undoable x_newest x_seeded x_qCoded x_qWaits x_qOpened x_qBase x_qPiled x_qAnswer x_qIsNew x_octets)), ((rm 0), .inl (cy 0, 1600, .inl g_tape)), ((rm 41), .inl (cy 0, 4, .inl g_many)), ((rm 9), .inl (cy 0, 6, .inl g_refused)), ((rm 76), .inl (cy 0, 32, .inl g_rows))] → va_S A s.heap H locs → lv_has ls 5 [(0, .ref a_this), (1, .int x_taped), (2, .int J36_l2), (3, .int J36_l3), (4, .int J101_l4)] → W p l e { frames := 2, cells := 0, slots := 0, locals := 46 } s m args below meth c H locs 0 0 Q (F0 m 101 ls []) := by
        intro J101_l4 H locs ls hK101_x_taped hK101_J36_l2 hK101_J36_l3 hJ101_l4 hP hD hS hl
        refine lv_iconst (v := 0) hx hb dX10_see_101 (by decide) ?_
        exact jn102 J101_l4 0 H locs ls (ib_w 1 50 hK101_x_taped (by decide)) (ib_w 1 1 hK101_J36_l2 (by decide)) (ib_w 0 49 hK101_J36_l3 (by decide)) (ib_w 0 65535 hJ101_l4 (by decide)) (ib_w 0 1 (ib_c 0 0 0 (by decide)) (by decide)) (fun q => absurd rfl q) hP hD hS (lv_sub hl [0, 1, 2, 3, 4] rfl)
      have jn97 : ∀ (J97_l4 : Int32) (H : Heap) (locs : List Loc) (ls : Array Slot), ib x_taped 1 50 → ib J36_l2 1 1 → ib J36_l3 0 49 → ib J97_l4 0 65535 → ib (g_many 3) 1 12 → (ib (g_tape (Int32.toNatClampNeg J36_l3)) 0 11) → va_P (dC, dI) vwCl [(a_this, .inr (10, mfs rm 0 x_at x_end x_ended x_bad x_badPlace x_fault x_faultPlace x_namePlace x_awayTold x_away x_coded x_statements x_isCrossing x_textKind x_askSecond x_redMany x_isOpen x_lastGreen x_greenTo x_isCycleGreen x_stillGreen x_rowMany x_fitMany x_fitRules x_fitGreen x_undoable x_newest x_seeded x_qCoded x_qWaits x_qOpened x_qBase x_qPiled x_qAnswer x_qIsNew x_octets)), ((rm 0), .inl (cy 0, 1600, .inl g_tape)), ((rm 41), .inl (cy 0, 4, .inl g_many)), ((rm 9), .inl (cy 0, 6, .inl g_refused)), ((rm 76), .inl (cy 0, 32, .inl g_rows))] H → va_D A [(a_this, .inr (10, mfs rm 0 x_at x_end x_ended x_bad x_badPlace x_fault x_faultPlace x_namePlace x_awayTold x_away x_coded x_statements x_isCrossing x_textKind x_askSecond x_redMany x_isOpen x_lastGreen x_greenTo x_isCycleGreen x_stillGreen x_rowMany x_fitMany x_fitRules x_fitGreen x_undoable x_newest x_seeded x_qCoded x_qWaits x_qOpened x_qBase x_qPiled x_qAnswer x_qIsNew x_octets)), ((rm 0), .inl (cy 0, 1600, .inl g_tape)), ((rm 41), .inl (cy 0, 4, .inl g_many)), ((rm 9), .inl (cy 0, 6, .inl g_refused)), ((rm 76), .inl (cy 0, 32, .inl g_rows))] → va_S A s.heap H locs → lv_has ls 5 [(0, .ref a_this), (1, .int x_taped), (2, .int J36_l2), (3, .int J36_l3), (4, .int J97_l4)] → W p l e { frames := 2, cells := 0, slots := 0, locals := 46 } s m args below meth c H locs 0 0 Q (F0 m 97 ls []) := by
        intro J97_l4 H locs ls hK97_x_taped hK97_J36_l2 hK97_J36_l3 hJ97_l4 hJ97_a2_3 hJ97_gh hP hD hS hl
        refine lv_iconst (v := 1) hx hb dX10_see_97 (by decide) ?_
        refine lv_goto (tgt := 102) hx hb dX10_see_98 (by decide) ?_
        exact jn102 J97_l4 1 H locs ls (ib_w 1 50 hK97_x_taped (by decide)) (ib_w 1 1 hK97_J36_l2 (by decide)) (ib_w 0 49 hK97_J36_l3 (by decide)) (ib_w 0 65535 hJ97_l4 (by decide)) (ib_w 0 1 (ib_c 1 1 1 (by decide)) (by decide)) (fun _ => hJ97_gh) hP hD hS (lv_sub hl [0, 1, 2, 3, 4] rfl)
      refine lv_iload_n hx hb dX10_see_36 rfl (lv_at hl 3 rfl) ?_
      refine lv_iload_n hx hb dX10_see_37 rfl (lv_at hl 1 rfl) ?_
      refine lv_icmp_ge (tgt := 109) hx hb dX10_see_38 (by decide) (fun c76 => ?_) (fun c76 => ?_)
      · have h77 := ib_le hx_taped hJ36_l3 c76
        have h78 : ib x_taped 0 52 := ib_w 0 52 h77.1 (by decide)
        exact jn109 J36_l2 J36_l3 H locs ls (ib_w 0 1 hJ36_l2 (by decide)) (ib_w 0 52 hJ36_l3 (by decide)) (fun q => ⟨sd_end (hJ36_gh q).1 c76, (hJ36_gh q).2⟩) hP hD hS (lv_sub hl [0, 1, 2, 3] rfl)
      · have h79 := ib_nle hx_taped hJ36_l3 c76
        have h80 : ib x_taped 1 1600 := ib_w 1 1600 h79.1 (by decide)
        refine lv_iload_n hx hb dX10_see_41 rfl (lv_at hl 2 rfl) ?_
        refine lv_if_eq (tgt := 109) hx hb dX10_see_42 (by decide) (fun c81 => ?_) (fun c81 => ?_)
        · have h82 := ib_eq hJ36_l2 (ib_c 0 0 0 (by decide)) c81
          have h83 : ib J36_l2 0 0 := ib_w 0 0 h82.1 (by decide)
          exact jn109 J36_l2 J36_l3 H locs ls (ib_w 0 1 h83 (by decide)) (ib_w 0 52 hJ36_l3 (by decide)) (fun q => absurd (ib_one h83 (by decide)) q) hP hD hS (lv_sub hl [0, 1, 2, 3] rfl)
        · have h84 : ib J36_l2 1 1 := ib_w 1 1 (ib_ne_lo 0 hJ36_l2 (by decide) c81) (by decide)
          have h85 : ib x_taped 1 50 := (hJ36_gh c81).2
          have h86 : ib J36_l3 0 49 := ⟨(hJ36_l3).1, by have := (h85).1; have := (h85).2; have := (hJ36_l3).1; have := (hJ36_l3).2; have := mt Int32.le_iff_toInt_le.mpr c76; omega⟩
          refine lv_sipush (v := 256) hx hb dX10_see_45 (by decide) ?_
          refine lv_aload_n hx hb dX10_see_48 rfl (lv_at hl 0 rfl) ?_
          refine k_get C0 fg_X10_7 hP 0 rfl rfl dX10_see_49 ?_
          refine lv_iload_n hx hb dX10_see_52 rfl (lv_at hl 3 rfl) ?_
          refine lv_iconst (v := 1) hx hb dX10_see_53 (by decide) ?_
          refine lv_iadd hx hb dX10_see_54 ?_
          refine lv_topi (fun z87 ez87 => ?_)
          have h88 := ib_add h86 (ib_c 1 1 1 (by decide)) (by decide)
          rw [← ez87] at h88
          have h89 : ib z87 1 50 := ib_w 1 50 h88.1 (by decide)
          refine va_iald hx hb C0.2.2.2.2.2.1 hP 1 0 rfl rfl (ib_in 1600 h89 (by decide)) dX10_see_55 ?_
          refine lv_topi (fun z90 ez90 => ?_)
          have h91 : ib z90 0 255 := by rw [ez90]; exact ia_at hg_tape (ib_in 1600 h89 (by decide))
          refine lv_imul hx hb dX10_see_56 ?_
          refine lv_topi (fun z92 ez92 => ?_)
          have h93 := ib_mul (ib_c 256 256 256 (by decide)) h91 (by decide)
          rw [← ez92] at h93
          have h94 : ib z92 0 65280 := ib_w 0 65280 h93.1 (by decide)
          have h95 : z92.toInt = 256 * z90.toInt := by have q0 := h93.2; rw [show (256 : Int32).toInt = 256 from by decide] at q0; omega
          refine lv_aload_n hx hb dX10_see_57 rfl (lv_at hl 0 rfl) ?_
          refine k_get C0 fg_X10_7 hP 0 rfl rfl dX10_see_58 ?_
          refine lv_iload_n hx hb dX10_see_61 rfl (lv_at hl 3 rfl) ?_
          refine lv_iconst (v := 2) hx hb dX10_see_62 (by decide) ?_
          refine lv_iadd hx hb dX10_see_63 ?_
          refine lv_topi (fun z96 ez96 => ?_)
          have h97 := ib_add h86 (ib_c 2 2 2 (by decide)) (by decide)
          rw [← ez96] at h97
          have h98 : ib z96 2 51 := ib_w 2 51 h97.1 (by decide)
          refine va_iald hx hb C0.2.2.2.2.2.1 hP 1 0 rfl rfl (ib_in 1600 h98 (by decide)) dX10_see_64 ?_
          refine lv_topi (fun z99 ez99 => ?_)
          have h100 : ib z99 0 255 := by rw [ez99]; exact ia_at hg_tape (ib_in 1600 h98 (by decide))
          refine lv_iadd hx hb dX10_see_65 ?_
          refine lv_topi (fun z101 ez101 => ?_)
          have h102 := ib_add h94 h100 (by decide)
          rw [← ez101] at h102
          have h103 : ib z101 0 65535 := ib_w 0 65535 h102.1 (by decide)
          refine lv_istore (lv' := [(4, .int z101), (0, .ref a_this), (1, .int x_taped), (2, .int J36_l2), (3, .int J36_l3)]) hx hb dX10_see_66 hl (by decide) rfl (fun ls hl => ?_)
          refine lv_aload_n hx hb dX10_see_68 rfl (lv_at hl 1 rfl) ?_
          refine lv_aload_n hx hb dX10_see_69 rfl (lv_at hl 1 rfl) ?_
          refine k_get C0 fg_X10_7 hP 0 rfl rfl dX10_see_70 ?_
          refine lv_iload_n hx hb dX10_see_73 rfl (lv_at hl 4 rfl) ?_
          refine va_iald hx hb C0.2.2.2.2.2.1 hP 1 0 rfl rfl (ib_in 1600 h86 (by decide)) dX10_see_74 ?_
          refine lv_topi (fun z104 ez104 => ?_)
          have h105 : ib z104 0 255 := by rw [ez104]; exact ia_at hg_tape (ib_in 1600 h86 (by decide))
          refine k_ji hP hD hS hA [0, 2] [1, 3, 4] (wr := [((rm 0), .inl (cy 0, 1600, .inl g_tape)), ((rm 9), .inl (cy 0, 6, .inl g_refused)), ((rm 76), .inl (cy 0, 32, .inl g_rows))]) rfl rfl (by decide) (by decide) (by decide) 0 0 (Nat.le_of_ble_eq_true rfl) (Nat.le_of_ble_eq_true rfl) (fun hPc hDc => k_runV (As := [.int z104]) (rest := []) C0 hZ hS hA (s_X10_isWalker l dC dI cy sq a_this rm 0 x_at x_end x_ended x_bad x_badPlace x_fault x_faultPlace x_namePlace x_awayTold x_away x_coded x_statements x_isCrossing x_textKind x_askSecond x_redMany x_isOpen x_lastGreen x_greenTo x_isCycleGreen x_stillGreen x_rowMany x_fitMany x_fitRules x_fitGreen x_undoable x_newest x_seeded x_qCoded x_qWaits x_qOpened x_qBase x_qPiled x_qAnswer x_qIsNew x_octets g_many z104 (ib_w 0 12 hg_many_3 (by decide))) mV_X10_531 hPc hDc rfl rfl rfl hl rfl rfl (Nat.le_of_ble_eq_true rfl) ⟨(Nat.le_of_ble_eq_true rfl), (Nat.le_of_ble_eq_true rfl)⟩ ⟨(Nat.le_of_ble_eq_true rfl), (Nat.le_of_ble_eq_true rfl)⟩ dX10_see_75) (fun r106 u107 H locs hw hP hD hS => ?_)
          try dsimp only at hP hD hw
          have hP : va_P (dC, dI) vwCl [((rm 0), .inl (cy 0, 1600, .inl g_tape)), ((rm 9), .inl (cy 0, 6, .inl g_refused)), ((rm 76), .inl (cy 0, 32, .inl g_rows)), (a_this, .inr (10, mfs rm 0 x_at x_end x_ended x_bad x_badPlace x_fault x_faultPlace x_namePlace x_awayTold x_away x_coded x_statements x_isCrossing x_textKind x_askSecond x_redMany x_isOpen x_lastGreen x_greenTo x_isCycleGreen x_stillGreen x_rowMany x_fitMany x_fitRules x_fitGreen x_undoable x_newest x_seeded x_qCoded x_qWaits x_qOpened x_qBase x_qPiled x_qAnswer x_qIsNew x_octets)), ((rm 41), .inl (cy 0, 4, .inl g_many))] H := hP
          have hD : va_D A [((rm 0), .inl (cy 0, 1600, .inl g_tape)), ((rm 9), .inl (cy 0, 6, .inl g_refused)), ((rm 76), .inl (cy 0, 32, .inl g_rows)), (a_this, .inr (10, mfs rm 0 x_at x_end x_ended x_bad x_badPlace x_fault x_faultPlace x_namePlace x_awayTold x_away x_coded x_statements x_isCrossing x_textKind x_askSecond x_redMany x_isOpen x_lastGreen x_greenTo x_isCycleGreen x_stillGreen x_rowMany x_fitMany x_fitRules x_fitGreen x_undoable x_newest x_seeded x_qCoded x_qWaits x_qOpened x_qBase x_qPiled x_qAnswer x_qIsNew x_octets)), ((rm 41), .inl (cy 0, 4, .inl g_many))] := hD
          obtain ⟨h108, h109, h110⟩ := hw
          refine lv_if_eq (tgt := 101) hx hb dX10_see_78 (by decide) (fun c111 => ?_) (fun c111 => ?_)
          · have h112 := ib_eq h108 (ib_c 0 0 0 (by decide)) c111
            have h113 : ib r106 0 0 := ib_w 0 0 h112.1 (by decide)
            exact jn101 z101 H locs ls (ib_w 1 50 h85 (by decide)) (ib_w 1 1 h84 (by decide)) (ib_w 0 49 h86 (by decide)) (ib_w 0 65535 h103 (by decide)) (hP.sub [3, 0, 4, 1, 2] rfl) (hD.sub [3, 0, 4, 1, 2] (by decide) rfl) hS (lv_sub hl [1, 2, 3, 4, 0] rfl)
          · have h114 : ib r106 1 1 := ib_w 1 1 (ib_ne_lo 0 h108 (by decide) c111) (by decide)
            have h115 : ib (g_many 3) 1 12 := ib_w 1 12 (ib_two hg_many_3 (h109 (ib_nz h114 (by decide)))) (by decide)
            have h116 : ib z104 0 11 := ib_w 0 11 (ib_two h105 (h110 (ib_nz h114 (by decide)))) (by decide)
            refine lv_iload hx hb dX10_see_81 (lv_at hl 0 rfl) ?_
            refine lv_sipush (v := 300) hx hb dX10_see_83 (by decide) ?_
            refine lv_icmp_lt (tgt := 97) hx hb dX10_see_86 (by decide) (fun c117 => ?_) (fun c117 => ?_)
            · have h118 := ib_lt h103 (ib_c 300 300 300 (by decide)) c117
              have h119 : ib z101 0 299 := ib_w 0 299 h118.1 (by decide)
              have h120 : ib z92 0 299 := ⟨by have := h102.2; have := (h119).1; have := (h119).2; have := (h94).1; have := (h94).2; have := (h100).1; have := (h100).2; omega, by have := h102.2; have := (h119).1; have := (h119).2; have := (h94).1; have := (h94).2; have := (h100).1; have := (h100).2; omega⟩
              exact jn97 z101 H locs ls (ib_w 1 50 h85 (by decide)) (ib_w 1 1 h84 (by decide)) (ib_w 0 49 h86 (by decide)) (ib_w 0 65535 h119 (by decide)) (ib_w 1 12 h115 (by decide)) ((show ib (g_tape (Int32.toNatClampNeg J36_l3)) 0 11 by rw [← ez104]; exact ib_w 0 11 h116 (by decide))) (hP.sub [3, 0, 4, 1, 2] rfl) (hD.sub [3, 0, 4, 1, 2] (by decide) rfl) hS (lv_sub hl [1, 2, 3, 4, 0] rfl)
            · have h121 := ib_nlt h103 (ib_c 300 300 300 (by decide)) c117
              have h122 : ib z101 300 65535 := ib_w 300 65535 h121.1 (by decide)
              have h123 : ib z92 45 65280 := ⟨by have := h102.2; have := (h122).1; have := (h122).2; have := (h94).1; have := (h94).2; have := (h100).1; have := (h100).2; omega, by have := h102.2; have := (h122).1; have := (h122).2; have := (h94).1; have := (h94).2; have := (h100).1; have := (h100).2; omega⟩
              refine lv_iload hx hb dX10_see_89 (lv_at hl 0 rfl) ?_
              refine lv_ldcw hx hb C0.2.2.2.1 (C0.2.2.2.2.1 _ wd1206) dX10_see_91 ?_
              refine lv_icmp_ne (tgt := 101) hx hb dX10_see_94 (by decide) (fun c124 => ?_) (fun c124 => ?_)
              · have h125 : ib z101 300 65534 := ib_w 300 65534 (ib_ne_hi 65535 h122 (by decide) c124) (by decide)
                exact jn101 z101 H locs ls (ib_w 1 50 h85 (by decide)) (ib_w 1 1 h84 (by decide)) (ib_w 0 49 h86 (by decide)) (ib_w 0 65535 h125 (by decide)) (hP.sub [3, 0, 4, 1, 2] rfl) (hD.sub [3, 0, 4, 1, 2] (by decide) rfl) hS (lv_sub hl [1, 2, 3, 4, 0] rfl)
              · have h126 := ib_eq h122 (ib_c 65535 65535 65535 (by decide)) c124
                have h127 : ib z101 65535 65535 := ib_w 65535 65535 h126.1 (by decide)
                have h128 : ib z92 65280 65280 := ⟨by have := h102.2; have := (h127).1; have := (h127).2; have := (h123).1; have := (h123).2; have := (h100).1; have := (h100).2; omega, by have := h102.2; have := (h127).1; have := (h127).2; have := (h123).1; have := (h123).2; have := (h100).1; have := (h100).2; omega⟩
                have h129 : ib z99 255 255 := ⟨by have := h102.2; have := (h127).1; have := (h127).2; have := (h123).1; have := (h123).2; have := (h100).1; have := (h100).2; omega, by have := h102.2; have := (h127).1; have := (h127).2; have := (h123).1; have := (h123).2; have := (h100).1; have := (h100).2; omega⟩
                exact jn97 z101 H locs ls (ib_w 1 50 h85 (by decide)) (ib_w 1 1 h84 (by decide)) (ib_w 0 49 h86 (by decide)) (ib_w 0 65535 h127 (by decide)) (ib_w 1 12 h115 (by decide)) ((show ib (g_tape (Int32.toNatClampNeg J36_l3)) 0 11 by rw [← ez104]; exact ib_w 0 11 h116 (by decide))) (hP.sub [3, 0, 4, 1, 2] rfl) (hD.sub [3, 0, 4, 1, 2] (by decide) rfl) hS (lv_sub hl [1, 2, 3, 4, 0] rfl)
  refine lv_aload_n hx hb dX10_see_0 rfl (lv_at hl 0 rfl) ?_
  refine k_get C0 fg_X10_276 hP 0 rfl rfl dX10_see_1 ?_
  refine lv_istore_n (lv' := [(1, .int x_taped), (0, .ref a_this)]) hx hb dX10_see_4 rfl hl (by decide) rfl (fun ls hl => ?_)
  refine lv_aload_n hx hb dX10_see_5 rfl (lv_at hl 1 rfl) ?_
  refine lv_iconst (v := 0) hx hb dX10_see_6 (by decide) ?_
  refine k_put C0 fp_X10_276 hP hD hS 0 rfl rfl rfl (Nat.le_of_ble_eq_true rfl) dX10_see_7 (fun H locs hP hD hS => ?_)
  have hP : va_P (dC, dI) vwCl [(a_this, .inr (10, mfs rm 0 x_at x_end x_ended x_bad x_badPlace x_fault x_faultPlace x_namePlace x_awayTold x_away x_coded x_statements x_isCrossing x_textKind x_askSecond x_redMany x_isOpen x_lastGreen x_greenTo x_isCycleGreen x_stillGreen x_rowMany x_fitMany x_fitRules x_fitGreen x_undoable x_newest x_seeded x_qCoded x_qWaits x_qOpened x_qBase x_qPiled x_qAnswer x_qIsNew x_octets)), ((rm 0), .inl (cy 0, 1600, .inl g_tape)), ((rm 41), .inl (cy 0, 4, .inl g_many)), ((rm 9), .inl (cy 0, 6, .inl g_refused)), ((rm 76), .inl (cy 0, 32, .inl g_rows))] H := hP
  have hD : va_D A [(a_this, .inr (10, mfs rm 0 x_at x_end x_ended x_bad x_badPlace x_fault x_faultPlace x_namePlace x_awayTold x_away x_coded x_statements x_isCrossing x_textKind x_askSecond x_redMany x_isOpen x_lastGreen x_greenTo x_isCycleGreen x_stillGreen x_rowMany x_fitMany x_fitRules x_fitGreen x_undoable x_newest x_seeded x_qCoded x_qWaits x_qOpened x_qBase x_qPiled x_qAnswer x_qIsNew x_octets)), ((rm 0), .inl (cy 0, 1600, .inl g_tape)), ((rm 41), .inl (cy 0, 4, .inl g_many)), ((rm 9), .inl (cy 0, 6, .inl g_refused)), ((rm 76), .inl (cy 0, 32, .inl g_rows))] := hD
  refine lv_iload_n hx hb dX10_see_10 rfl (lv_at hl 0 rfl) ?_
  refine lv_if_le (tgt := 32) hx hb dX10_see_11 (by decide) (fun c130 => ?_) (fun c130 => ?_)
  · have h131 := ib_le hx_taped (ib_c 0 0 0 (by decide)) c130
    have h132 : ib x_taped 0 0 := ib_w 0 0 h131.1 (by decide)
    refine lv_iconst (v := 0) hx hb dX10_see_32 (by decide) ?_
    refine lv_istore_n (lv' := [(2, .int 0), (1, .int x_taped), (0, .ref a_this)]) hx hb dX10_see_33 rfl hl (by decide) rfl (fun ls hl => ?_)
    refine lv_iconst (v := 0) hx hb dX10_see_34 (by decide) ?_
    refine lv_istore_n (lv' := [(3, .int 0), (2, .int 0), (1, .int x_taped), (0, .ref a_this)]) hx hb dX10_see_35 rfl hl (by decide) rfl (fun ls hl => ?_)
    exact jn36 54 0 0 H locs ls (ib_w 0 1 (ib_c 0 0 0 (by decide)) (by decide)) (ib_w 0 52 (ib_c 0 0 0 (by decide)) (by decide)) (fun q => absurd rfl q) (by have := (ib_c 0 0 0 (by decide)); unfold ib at this; omega) hP hD hS (lv_sub hl [3, 2, 1, 0] rfl)
  · have h133 := ib_nle hx_taped (ib_c 0 0 0 (by decide)) c130
    have h134 : ib x_taped 1 1600 := ib_w 1 1600 h133.1 (by decide)
    refine lv_iload_n hx hb dX10_see_14 rfl (lv_at hl 0 rfl) ?_
    refine lv_iconst (v := 3) hx hb dX10_see_15 (by decide) ?_
    refine lv_irem hx hb dX10_see_16 (by decide) ?_
    refine lv_topi (fun z135 ez135 => ?_)
    have h136 : ib z135 0 2 := by rw [ez135]; exact ib_w 0 2 (ib_rem h134 (ib_c 3 3 3 (by decide)) (by decide)) (by decide)
    refine lv_if_ne (tgt := 32) hx hb dX10_see_17 (by decide) (fun c137 => ?_) (fun c137 => ?_)
    · have h138 : ib z135 1 2 := ib_w 1 2 (ib_ne_lo 0 h136 (by decide) c137) (by decide)
      refine lv_iconst (v := 0) hx hb dX10_see_32 (by decide) ?_
      refine lv_istore_n (lv' := [(2, .int 0), (1, .int x_taped), (0, .ref a_this)]) hx hb dX10_see_33 rfl hl (by decide) rfl (fun ls hl => ?_)
      refine lv_iconst (v := 0) hx hb dX10_see_34 (by decide) ?_
      refine lv_istore_n (lv' := [(3, .int 0), (2, .int 0), (1, .int x_taped), (0, .ref a_this)]) hx hb dX10_see_35 rfl hl (by decide) rfl (fun ls hl => ?_)
      exact jn36 54 0 0 H locs ls (ib_w 0 1 (ib_c 0 0 0 (by decide)) (by decide)) (ib_w 0 52 (ib_c 0 0 0 (by decide)) (by decide)) (fun q => absurd rfl q) (by have := (ib_c 0 0 0 (by decide)); unfold ib at this; omega) hP hD hS (lv_sub hl [3, 2, 1, 0] rfl)
    · have h139 := ib_eq h136 (ib_c 0 0 0 (by decide)) c137
      have h140 : ib z135 0 0 := ib_w 0 0 h139.1 (by decide)
      refine lv_iload_n hx hb dX10_see_20 rfl (lv_at hl 0 rfl) ?_
      refine lv_iconst (v := 3) hx hb dX10_see_21 (by decide) ?_
      refine lv_idiv hx hb dX10_see_22 (by decide) ?_
      refine lv_topi (fun z141 ez141 => ?_)
      have h142 : 3 * z141.toInt ≤ x_taped.toInt ∧ x_taped.toInt < 3 * z141.toInt + 3 := by rw [ez141]; exact ib_dv2 3 3 rfl h134 (by decide) (by decide)
      have h143 : ib z141 0 533 := by rw [ez141]; exact ib_w 0 533 (ib_div h134 (ib_c 3 3 3 (by decide)) (by decide)) (by decide)
      refine lv_bipush (v := 16) hx hb dX10_see_23 (by decide) ?_
      refine lv_icmp_gt (tgt := 32) hx hb dX10_see_25 (by decide) (fun c144 => ?_) (fun c144 => ?_)
      · have h145 := ib_lt (ib_c 16 16 16 (by decide)) h143 c144
        have h146 : ib z141 17 533 := ib_w 17 533 h145.2 (by decide)
        have h147 : ib x_taped 51 1600 := ⟨by have q1 := (h142).1; have q2 := (h142).2; have := (h146).1; have := (h146).2; have := (h134).1; have := (h134).2; omega, by have q1 := (h142).1; have q2 := (h142).2; have := (h146).1; have := (h146).2; have := (h134).1; have := (h134).2; omega⟩
        refine lv_iconst (v := 0) hx hb dX10_see_32 (by decide) ?_
        refine lv_istore_n (lv' := [(2, .int 0), (1, .int x_taped), (0, .ref a_this)]) hx hb dX10_see_33 rfl hl (by decide) rfl (fun ls hl => ?_)
        refine lv_iconst (v := 0) hx hb dX10_see_34 (by decide) ?_
        refine lv_istore_n (lv' := [(3, .int 0), (2, .int 0), (1, .int x_taped), (0, .ref a_this)]) hx hb dX10_see_35 rfl hl (by decide) rfl (fun ls hl => ?_)
        exact jn36 54 0 0 H locs ls (ib_w 0 1 (ib_c 0 0 0 (by decide)) (by decide)) (ib_w 0 52 (ib_c 0 0 0 (by decide)) (by decide)) (fun q => absurd rfl q) (by have := (ib_c 0 0 0 (by decide)); unfold ib at this; omega) hP hD hS (lv_sub hl [3, 2, 1, 0] rfl)
      · have h148 := ib_nlt (ib_c 16 16 16 (by decide)) h143 c144
        have h149 : ib z141 0 16 := ib_w 0 16 h148.2 (by decide)
        have h150 : ib x_taped 1 50 := ⟨by have q1 := (h142).1; have q2 := (h142).2; have := (h149).1; have := (h149).2; have := (h134).1; have := (h134).2; omega, by have q1 := (h142).1; have q2 := (h142).2; have := (h149).1; have := (h149).2; have := (h134).1; have := (h134).2; omega⟩
        refine lv_iconst (v := 1) hx hb dX10_see_28 (by decide) ?_
        refine lv_goto (tgt := 33) hx hb dX10_see_29 (by decide) ?_
        refine lv_istore_n (lv' := [(2, .int 1), (1, .int x_taped), (0, .ref a_this)]) hx hb dX10_see_33 rfl hl (by decide) rfl (fun ls hl => ?_)
        refine lv_iconst (v := 0) hx hb dX10_see_34 (by decide) ?_
        refine lv_istore_n (lv' := [(3, .int 0), (2, .int 1), (1, .int x_taped), (0, .ref a_this)]) hx hb dX10_see_35 rfl hl (by decide) rfl (fun ls hl => ?_)
        exact jn36 54 1 0 H locs ls (ib_w 0 1 (ib_c 1 1 1 (by decide)) (by decide)) (ib_w 0 52 (ib_c 0 0 0 (by decide)) (by decide)) (fun _ => ⟨sd_0 _, ib_w 1 50 h150 (by decide)⟩) (by have := (ib_c 0 0 0 (by decide)); unfold ib at this; omega) hP hD hS (lv_sub hl [3, 2, 1, 0] rfl)
set_option maxHeartbeats 4000000 in
set_option maxRecDepth 100000 in
theorem s_X10_seed (l : Launch) (dC : Nat → ClassId) (dI : Nat → Nat → Nat) (cy : Nat → ClassId) (sq : Nat → Nat) (a_this : Nat) (rm : Nat → Nat) (x_taped : Int32) (x_at : Int32) (x_end : Int32) (x_ended : Int32) (x_bad : Int32) (x_badPlace : Int32) (x_fault : Int32) (x_faultPlace : Int32) (x_namePlace : Int32) (x_awayTold : Int32) (x_away : Int32) (x_coded : Int32) (x_statements : Int32) (x_isCrossing : Int32) (x_textKind : Int32) (x_askSecond : Int32) (x_redMany : Int32) (x_isOpen : Int32) (x_lastGreen : Int32) (x_greenTo : Int32) (x_isCycleGreen : Int32) (x_stillGreen : Int32) (x_rowMany : Int32) (x_fitMany : Int32) (x_fitRules : Int32) (x_fitGreen : Int32) (x_undoable : Int32) (x_newest : Int32) (x_seeded : Int64) (x_qCoded : Int32) (x_qWaits : Int32) (x_qOpened : Int32) (x_qBase : Int32) (x_qPiled : Int32) (x_qAnswer : Int64) (x_qIsNew : Int32) (x_octets : Int32) (g_refused : Nat → Int32) (p0 : Int32)  : k_Met l yX10_seed cX10_seed 2 (some .boolean) { frames := 0, cells := 0, slots := 0, locals := 0 } dC dI cy sq [.ref a_this, .int p0] [(a_this, .inr (10, mfs rm x_taped x_at x_end x_ended x_bad x_badPlace x_fault x_faultPlace x_namePlace x_awayTold x_away x_coded x_statements x_isCrossing x_textKind x_askSecond x_redMany x_isOpen x_lastGreen x_greenTo x_isCycleGreen x_stillGreen x_rowMany x_fitMany x_fitRules x_fitGreen x_undoable x_newest x_seeded x_qCoded x_qWaits x_qOpened x_qBase x_qPiled x_qAnswer x_qIsNew x_octets)), ((rm 9), .inl (cy 0, 6, .inl g_refused))] (k_Qi dC dI (fun (r : Int32) (u : Int64 × (Nat → Int32)) => match u with | (n0, n1) => ib r 0 1 ∧ (¬ r = 0 → ib p0 0 2147483647) ∧ (r = 0 ↔ ¬ 0 ≤ p0)) (fun u : Int64 × (Nat → Int32) => match u with | (n0, n1) => [(a_this, .inr (10, mfs rm x_taped x_at x_end x_ended x_bad x_badPlace x_fault x_faultPlace x_namePlace x_awayTold x_away x_coded x_statements x_isCrossing x_textKind x_askSecond x_redMany x_isOpen x_lastGreen x_greenTo x_isCycleGreen x_stillGreen x_rowMany x_fitMany x_fitRules x_fitGreen x_undoable x_newest n0 x_qCoded x_qWaits x_qOpened x_qBase x_qPiled x_qAnswer x_qIsNew x_octets)), ((rm 9), .inl (cy 0, 6, .inl n1))])) := by
  refine k_ofW2 (by decide +kernel) (Nat.le_of_ble_eq_true rfl) ?_
  intro p e s m below meth c A ls H locs args Q hQ C0 hZ hr hlk hin hP hD hA hS hl
  have C0 : k_cx p s m args c cX10_seed 2 RX10 dC dI cy sq := C0
  have hx := C0.1
  have hb := C0.2.1
  have hl : lv_has ls 2 [(0, .ref a_this), (1, .int p0)] := hl
  refine lv_iload_n hx hb dX10_seed_0 rfl (lv_at hl 1 rfl) ?_
  refine lv_if_ge (tgt := 16) hx hb dX10_seed_1 (by decide) (fun c1 => ?_) (fun c1 => ?_)
  · have h2 := ib_le (ib_c 0 0 0 (by decide)) (ib_any p0) c1
    have h3 : ib p0 0 2147483647 := ib_w 0 2147483647 h2.2 (by decide)
    refine lv_aload_n hx hb dX10_seed_16 rfl (lv_at hl 0 rfl) ?_
    refine lv_iload_n hx hb dX10_seed_17 rfl (lv_at hl 1 rfl) ?_
    refine lv_i2l (v := p0.toInt64) hx hb dX10_seed_18 rfl ?_
    refine k_put C0 fp_X10_185 hP hD hS 0 rfl rfl rfl (Nat.le_of_ble_eq_true rfl) dX10_seed_19 (fun H locs hP hD hS => ?_)
    have hP : va_P (dC, dI) vwCl [(a_this, .inr (10, mfs rm x_taped x_at x_end x_ended x_bad x_badPlace x_fault x_faultPlace x_namePlace x_awayTold x_away x_coded x_statements x_isCrossing x_textKind x_askSecond x_redMany x_isOpen x_lastGreen x_greenTo x_isCycleGreen x_stillGreen x_rowMany x_fitMany x_fitRules x_fitGreen x_undoable x_newest p0.toInt64 x_qCoded x_qWaits x_qOpened x_qBase x_qPiled x_qAnswer x_qIsNew x_octets)), ((rm 9), .inl (cy 0, 6, .inl g_refused))] H := hP
    have hD : va_D A [(a_this, .inr (10, mfs rm x_taped x_at x_end x_ended x_bad x_badPlace x_fault x_faultPlace x_namePlace x_awayTold x_away x_coded x_statements x_isCrossing x_textKind x_askSecond x_redMany x_isOpen x_lastGreen x_greenTo x_isCycleGreen x_stillGreen x_rowMany x_fitMany x_fitRules x_fitGreen x_undoable x_newest p0.toInt64 x_qCoded x_qWaits x_qOpened x_qBase x_qPiled x_qAnswer x_qIsNew x_octets)), ((rm 9), .inl (cy 0, 6, .inl g_refused))] := hD
    refine lv_iconst (v := 1) hx hb dX10_seed_22 (by decide) ?_
    subst hQ; exact k_iret hx hb hr hlk (k_nb 1 (by decide)) ((p0.toInt64, g_refused)) hS ⟨ib_w 0 1 (ib_c 1 1 1 (by decide)) (by decide), fun _ => ib_w 0 2147483647 h3 (by decide), ⟨fun q => absurd q (by decide), fun q => absurd c1 q⟩⟩ hP hD (Nat.le_of_ble_eq_true rfl) (Nat.le_of_ble_eq_true rfl) dX10_seed_23
  · have h4 := ib_nle (ib_c 0 0 0 (by decide)) (ib_any p0) c1
    have h5 : ib p0 (-2147483648) (-1) := ib_w (-2147483648) (-1) h4.2 (by decide)
    refine lv_aload_n hx hb dX10_seed_4 rfl (lv_at hl 0 rfl) ?_
    refine k_get C0 fg_X10_17 hP 0 rfl rfl dX10_seed_5 ?_
    refine lv_iconst (v := 5) hx hb dX10_seed_8 (by decide) ?_
    refine lv_dup2_11 hx hb dX10_seed_9 rfl rfl ?_
    refine va_iald hx hb C0.2.2.2.2.2.1 hP 1 0 rfl rfl (k_in 5 6 (by decide)) dX10_seed_10 ?_
    refine lv_topi (fun z6 ez6 => ?_)
    refine lv_iconst (v := 1) hx hb dX10_seed_11 (by decide) ?_
    refine lv_iadd hx hb dX10_seed_12 ?_
    refine lv_topi (fun z7 ez7 => ?_)
    refine va_iast hx hb C0.2.2.2.2.2.1 hP hD hS 1 0 rfl rfl (k_in 5 6 (by decide)) dX10_seed_13 (fun H locs hP hD hS => ?_)
    have hP : va_P (dC, dI) vwCl [(a_this, .inr (10, mfs rm x_taped x_at x_end x_ended x_bad x_badPlace x_fault x_faultPlace x_namePlace x_awayTold x_away x_coded x_statements x_isCrossing x_textKind x_askSecond x_redMany x_isOpen x_lastGreen x_greenTo x_isCycleGreen x_stillGreen x_rowMany x_fitMany x_fitRules x_fitGreen x_undoable x_newest x_seeded x_qCoded x_qWaits x_qOpened x_qBase x_qPiled x_qAnswer x_qIsNew x_octets)), ((rm 9), .inl (cy 0, 6, .inl (upd g_refused 5 z7)))] H := hP
    have hD : va_D A [(a_this, .inr (10, mfs rm x_taped x_at x_end x_ended x_bad x_badPlace x_fault x_faultPlace x_namePlace x_awayTold x_away x_coded x_statements x_isCrossing x_textKind x_askSecond x_redMany x_isOpen x_lastGreen x_greenTo x_isCycleGreen x_stillGreen x_rowMany x_fitMany x_fitRules x_fitGreen x_undoable x_newest x_seeded x_qCoded x_qWaits x_qOpened x_qBase x_qPiled x_qAnswer x_qIsNew x_octets)), ((rm 9), .inl (cy 0, 6, .inl (upd g_refused 5 z7)))] := hD
    generalize upd g_refused 5 z7 = f8 at hP hD
    refine lv_iconst (v := 0) hx hb dX10_seed_14 (by decide) ?_
    subst hQ; exact k_iret hx hb hr hlk (k_nb 0 (by decide)) ((x_seeded, f8)) hS ⟨ib_w 0 1 (ib_c 0 0 0 (by decide)) (by decide), fun hq9 => absurd rfl hq9, ⟨fun _ => c1, fun _ => rfl⟩⟩ hP hD (Nat.le_of_ble_eq_true rfl) (Nat.le_of_ble_eq_true rfl) dX10_seed_15
set_option maxHeartbeats 4000000 in
set_option maxRecDepth 100000 in
theorem s_X10_status (l : Launch) (dC : Nat → ClassId) (dI : Nat → Nat → Nat) (cy : Nat → ClassId) (sq : Nat → Nat) (a_this : Nat) (rm : Nat → Nat) (x_taped : Int32) (x_at : Int32) (x_end : Int32) (x_ended : Int32) (x_bad : Int32) (x_badPlace : Int32) (x_fault : Int32) (x_faultPlace : Int32) (x_namePlace : Int32) (x_awayTold : Int32) (x_away : Int32) (x_coded : Int32) (x_statements : Int32) (x_isCrossing : Int32) (x_textKind : Int32) (x_askSecond : Int32) (x_redMany : Int32) (x_isOpen : Int32) (x_lastGreen : Int32) (x_greenTo : Int32) (x_isCycleGreen : Int32) (x_stillGreen : Int32) (x_rowMany : Int32) (x_fitMany : Int32) (x_fitRules : Int32) (x_fitGreen : Int32) (x_undoable : Int32) (x_newest : Int32) (x_seeded : Int64) (x_qCoded : Int32) (x_qWaits : Int32) (x_qOpened : Int32) (x_qBase : Int32) (x_qPiled : Int32) (x_qAnswer : Int64) (x_qIsNew : Int32) (x_octets : Int32) (g_refused : Nat → Int32) (p0 : Int32)  : k_Met l yX10_status cX10_status 2 (some .int) { frames := 1, cells := 0, slots := 0, locals := 25 } dC dI cy sq [.ref a_this, .int p0] [(a_this, .inr (10, mfs rm x_taped x_at x_end x_ended x_bad x_badPlace x_fault x_faultPlace x_namePlace x_awayTold x_away x_coded x_statements x_isCrossing x_textKind x_askSecond x_redMany x_isOpen x_lastGreen x_greenTo x_isCycleGreen x_stillGreen x_rowMany x_fitMany x_fitRules x_fitGreen x_undoable x_newest x_seeded x_qCoded x_qWaits x_qOpened x_qBase x_qPiled x_qAnswer x_qIsNew x_octets)), ((rm 9), .inl (cy 0, 6, .inl g_refused))] (k_Qi dC dI (fun (r : Int32) (_ : Unit) => True) (fun _ : Unit => [(a_this, .inr (10, mfs rm x_taped x_at x_end x_ended x_bad x_badPlace x_fault x_faultPlace x_namePlace x_awayTold x_away x_coded x_statements x_isCrossing x_textKind x_askSecond x_redMany x_isOpen x_lastGreen x_greenTo x_isCycleGreen x_stillGreen x_rowMany x_fitMany x_fitRules x_fitGreen x_undoable x_newest x_seeded x_qCoded x_qWaits x_qOpened x_qBase x_qPiled x_qAnswer x_qIsNew x_octets)), ((rm 9), .inl (cy 0, 6, .inl g_refused))])) := by
  refine k_ofW2 (by decide +kernel) (Nat.le_of_ble_eq_true rfl) ?_
  intro p e s m below meth c A ls H locs args Q hQ C0 hZ hr hlk hin hP hD hA hS hl
  have C0 : k_cx p s m args c cX10_status 2 RX10 dC dI cy sq := C0
  have hx := C0.1
  have hb := C0.2.1
  have hl : lv_has ls 2 [(0, .ref a_this), (1, .int p0)] := hl
  refine lv_iload_n hx hb dX10_status_0 rfl (lv_at hl 1 rfl) ?_
  refine lv_i2l (v := p0.toInt64) hx hb dX10_status_1 rfl ?_
  refine lv_lconst (v := 0) hx hb dX10_status_2 (by decide) ?_
  refine lv_ldc2 hx hb C0.2.2.2.1 (C0.2.2.2.2.1 _ wd789) dX10_status_3 ?_
  refine k_ji hP hD hS hA [] [0, 1] (wr := [(a_this, .inr (10, mfs rm x_taped x_at x_end x_ended x_bad x_badPlace x_fault x_faultPlace x_namePlace x_awayTold x_away x_coded x_statements x_isCrossing x_textKind x_askSecond x_redMany x_isOpen x_lastGreen x_greenTo x_isCycleGreen x_stillGreen x_rowMany x_fitMany x_fitRules x_fitGreen x_undoable x_newest x_seeded x_qCoded x_qWaits x_qOpened x_qBase x_qPiled x_qAnswer x_qIsNew x_octets)), ((rm 9), .inl (cy 0, 6, .inl g_refused))]) rfl rfl (by decide) (by decide) (by decide) 0 0 (Nat.le_of_ble_eq_true rfl) (Nat.le_of_ble_eq_true rfl) (fun hPc hDc => k_runS (As := [.long p0.toInt64, .long 0, .long 5]) (rest := []) C0 hZ hS hA (c_isIn l dC dI cy sq p0.toInt64 0 5) mS_X10_318 hPc hDc hl rfl rfl (Nat.le_of_ble_eq_true rfl) ⟨(Nat.le_of_ble_eq_true rfl), (Nat.le_of_ble_eq_true rfl)⟩ ⟨(Nat.le_of_ble_eq_true rfl), (Nat.le_of_ble_eq_true rfl)⟩ dX10_status_6) (fun r1 u2 H locs hw hP hD hS => ?_)
  have hP : va_P (dC, dI) vwCl [(a_this, .inr (10, mfs rm x_taped x_at x_end x_ended x_bad x_badPlace x_fault x_faultPlace x_namePlace x_awayTold x_away x_coded x_statements x_isCrossing x_textKind x_askSecond x_redMany x_isOpen x_lastGreen x_greenTo x_isCycleGreen x_stillGreen x_rowMany x_fitMany x_fitRules x_fitGreen x_undoable x_newest x_seeded x_qCoded x_qWaits x_qOpened x_qBase x_qPiled x_qAnswer x_qIsNew x_octets)), ((rm 9), .inl (cy 0, 6, .inl g_refused))] H := hP
  have hD : va_D A [(a_this, .inr (10, mfs rm x_taped x_at x_end x_ended x_bad x_badPlace x_fault x_faultPlace x_namePlace x_awayTold x_away x_coded x_statements x_isCrossing x_textKind x_askSecond x_redMany x_isOpen x_lastGreen x_greenTo x_isCycleGreen x_stillGreen x_rowMany x_fitMany x_fitRules x_fitGreen x_undoable x_newest x_seeded x_qCoded x_qWaits x_qOpened x_qBase x_qPiled x_qAnswer x_qIsNew x_octets)), ((rm 9), .inl (cy 0, 6, .inl g_refused))] := hD
  have h3 := hw
  have h4 : ib r1 0 1 := by rw [h3]; exact k_isf_01 _ _ _
  refine lv_if_eq (tgt := 21) hx hb dX10_status_9 (by decide) (fun c5 => ?_) (fun c5 => ?_)
  · have h6 := ib_eq h4 (ib_c 0 0 0 (by decide)) c5
    have h7 : ib r1 0 0 := ib_w 0 0 h6.1 (by decide)
    refine lv_iconst (v := (-1)) hx hb dX10_status_21 (by decide) ?_
    subst hQ; exact k_iret hx hb hr hlk rfl () hS True.intro hP hD (Nat.le_of_ble_eq_true rfl) (Nat.le_of_ble_eq_true rfl) dX10_status_22
  · have h8 : ib r1 1 1 := ib_w 1 1 (ib_ne_lo 0 h4 (by decide) c5) (by decide)
    have h9 : ib p0 0 5 := ib_w 0 5 (ib_two (ib_any p0) (k_isf_v h3 (show 0 ≤ (0 : Int64).toInt by decide) (show (5 : Int64).toInt ≤ 5 by decide) (ib_nz h8 (by decide)))) (by decide)
    refine lv_aload_n hx hb dX10_status_12 rfl (lv_at hl 0 rfl) ?_
    refine k_get C0 fg_X10_17 hP 0 rfl rfl dX10_status_13 ?_
    refine lv_iload_n hx hb dX10_status_16 rfl (lv_at hl 1 rfl) ?_
    refine va_iald hx hb C0.2.2.2.2.2.1 hP 1 0 rfl rfl (ib_in 6 h9 (by decide)) dX10_status_17 ?_
    refine lv_topi (fun z10 ez10 => ?_)
    refine lv_goto (tgt := 22) hx hb dX10_status_18 (by decide) ?_
    subst hQ; exact k_iret hx hb hr hlk rfl () hS True.intro hP hD (Nat.le_of_ble_eq_true rfl) (Nat.le_of_ble_eq_true rfl) dX10_status_22
set_option maxHeartbeats 4000000 in
set_option maxRecDepth 100000 in
theorem s_X10_trust (l : Launch) (dC : Nat → ClassId) (dI : Nat → Nat → Nat) (cy : Nat → ClassId) (sq : Nat → Nat) (a_this : Nat) (rm : Nat → Nat) (x_taped : Int32) (x_at : Int32) (x_end : Int32) (x_ended : Int32) (x_bad : Int32) (x_badPlace : Int32) (x_fault : Int32) (x_faultPlace : Int32) (x_namePlace : Int32) (x_awayTold : Int32) (x_away : Int32) (x_coded : Int32) (x_statements : Int32) (x_isCrossing : Int32) (x_textKind : Int32) (x_askSecond : Int32) (x_redMany : Int32) (x_isOpen : Int32) (x_lastGreen : Int32) (x_greenTo : Int32) (x_isCycleGreen : Int32) (x_stillGreen : Int32) (x_rowMany : Int32) (x_fitMany : Int32) (x_fitRules : Int32) (x_fitGreen : Int32) (x_undoable : Int32) (x_newest : Int32) (x_seeded : Int64) (x_qCoded : Int32) (x_qWaits : Int32) (x_qOpened : Int32) (x_qBase : Int32) (x_qPiled : Int32) (x_qAnswer : Int64) (x_qIsNew : Int32) (x_octets : Int32) (g_refused : Nat → Int32) (g_many : Nat → Int32) (g_now : Nat → Int32) (g_kept0 : Nat → Int32) (p0 : Int32) (p1 : Int32) (hx_undoable : ib x_undoable 0 20) (hx_newest : ib x_newest 0 19) (hg_many_2 : ib (g_many 2) 0 6) : k_Met l yX10_trust cX10_trust 3 (some .boolean) { frames := 2, cells := 0, slots := 0, locals := 46 } dC dI cy sq [.ref a_this, .int p0, .int p1] [(a_this, .inr (10, mfs rm x_taped x_at x_end x_ended x_bad x_badPlace x_fault x_faultPlace x_namePlace x_awayTold x_away x_coded x_statements x_isCrossing x_textKind x_askSecond x_redMany x_isOpen x_lastGreen x_greenTo x_isCycleGreen x_stillGreen x_rowMany x_fitMany x_fitRules x_fitGreen x_undoable x_newest x_seeded x_qCoded x_qWaits x_qOpened x_qBase x_qPiled x_qAnswer x_qIsNew x_octets)), ((rm 41), .inl (cy 0, 4, .inl g_many)), ((rm 56), .inl (cy 0, 9, .inl g_now)), ((rm 81), .inl (cy 0, 180, .inl g_kept0)), ((rm 9), .inl (cy 0, 6, .inl g_refused))] (k_Qi dC dI (fun (r : Int32) (u : Int32 × Int32 × (Nat → Int32) × (Nat → Int32) × (Nat → Int32)) => match u with | (n0, n1, n2, n3, n4) => ib n0 0 20 ∧ ib n1 0 19 ∧ ib r 0 1 ∧ (¬ r = 0 → ib n0 1 20) ∧ (¬ r = 0 → ib (g_many 2) 1 6) ∧ (¬ r = 0 → ib p0 0 5) ∧ (¬ r = 0 → ib p1 0 9)) (fun u : Int32 × Int32 × (Nat → Int32) × (Nat → Int32) × (Nat → Int32) => match u with | (n0, n1, n2, n3, n4) => [(a_this, .inr (10, mfs rm x_taped x_at x_end x_ended x_bad x_badPlace x_fault x_faultPlace x_namePlace x_awayTold x_away x_coded x_statements x_isCrossing x_textKind x_askSecond x_redMany x_isOpen x_lastGreen x_greenTo x_isCycleGreen x_stillGreen x_rowMany x_fitMany x_fitRules x_fitGreen n0 n1 x_seeded x_qCoded x_qWaits x_qOpened x_qBase x_qPiled x_qAnswer x_qIsNew x_octets)), ((rm 41), .inl (cy 0, 4, .inl g_many)), ((rm 56), .inl (cy 0, 9, .inl n2)), ((rm 81), .inl (cy 0, 180, .inl n3)), ((rm 9), .inl (cy 0, 6, .inl n4))])) := by
  refine k_ofW2 (by decide +kernel) (Nat.le_of_ble_eq_true rfl) ?_
  intro p e s m below meth c A ls H locs args Q hQ C0 hZ hr hlk hin hP hD hA hS hl
  have C0 : k_cx p s m args c cX10_trust 3 RX10 dC dI cy sq := C0
  have hx := C0.1
  have hb := C0.2.1
  have hl : lv_has ls 3 [(0, .ref a_this), (1, .int p0), (2, .int p1)] := hl
  have jn29 : ∀  (H : Heap) (locs : List Loc) (ls : Array Slot), va_P (dC, dI) vwCl [(a_this, .inr (10, mfs rm x_taped x_at x_end x_ended x_bad x_badPlace x_fault x_faultPlace x_namePlace x_awayTold x_away x_coded x_statements x_isCrossing x_textKind x_askSecond x_redMany x_isOpen x_lastGreen x_greenTo x_isCycleGreen x_stillGreen x_rowMany x_fitMany x_fitRules x_fitGreen x_undoable x_newest x_seeded x_qCoded x_qWaits x_qOpened x_qBase x_qPiled x_qAnswer x_qIsNew x_octets)), ((rm 41), .inl (cy 0, 4, .inl g_many)), ((rm 56), .inl (cy 0, 9, .inl g_now)), ((rm 81), .inl (cy 0, 180, .inl g_kept0)), ((rm 9), .inl (cy 0, 6, .inl g_refused))] H → va_D A [(a_this, .inr (10, mfs rm x_taped x_at x_end x_ended x_bad x_badPlace x_fault x_faultPlace x_namePlace x_awayTold x_away x_coded x_statements x_isCrossing x_textKind x_askSecond x_redMany x_isOpen x_lastGreen x_greenTo x_isCycleGreen x_stillGreen x_rowMany x_fitMany x_fitRules x_fitGreen x_undoable x_newest x_seeded x_qCoded x_qWaits x_qOpened x_qBase x_qPiled x_qAnswer x_qIsNew x_octets)), ((rm 41), .inl (cy 0, 4, .inl g_many)), ((rm 56), .inl (cy 0, 9, .inl g_now)), ((rm 81), .inl (cy 0, 180, .inl g_kept0)), ((rm 9), .inl (cy 0, 6, .inl g_refused))] → va_S A s.heap H locs → lv_has ls 3 [(0, .ref a_this), (1, .int p0), (2, .int p1)] → W p l e { frames := 2, cells := 0, slots := 0, locals := 46 } s m args below meth c H locs 0 0 Q (F0 m 29 ls []) := by
    intro H locs ls hP hD hS hl
    refine lv_aload_n hx hb dX10_trust_29 rfl (lv_at hl 0 rfl) ?_
    refine k_ji hP hD hS hA [0, 4] [1, 2, 3] (wr := [((rm 41), .inl (cy 0, 4, .inl g_many)), ((rm 56), .inl (cy 0, 9, .inl g_now)), ((rm 81), .inl (cy 0, 180, .inl g_kept0))]) rfl rfl (by decide) (by decide) (by decide) 0 0 (Nat.le_of_ble_eq_true rfl) (Nat.le_of_ble_eq_true rfl) (fun hPc hDc => k_runV (As := []) (rest := []) C0 hZ hS hA (s_X10_isRefused l dC dI cy sq a_this rm x_taped x_at x_end x_ended x_bad x_badPlace x_fault x_faultPlace x_namePlace x_awayTold x_away x_coded x_statements x_isCrossing x_textKind x_askSecond x_redMany x_isOpen x_lastGreen x_greenTo x_isCycleGreen x_stillGreen x_rowMany x_fitMany x_fitRules x_fitGreen x_undoable x_newest x_seeded x_qCoded x_qWaits x_qOpened x_qBase x_qPiled x_qAnswer x_qIsNew x_octets g_refused ) mV_X10_591 hPc hDc rfl rfl rfl hl rfl rfl (Nat.le_of_ble_eq_true rfl) ⟨(Nat.le_of_ble_eq_true rfl), (Nat.le_of_ble_eq_true rfl)⟩ ⟨(Nat.le_of_ble_eq_true rfl), (Nat.le_of_ble_eq_true rfl)⟩ dX10_trust_30) (fun r1 u2 H locs hw hP hD hS => ?_)
    obtain ⟨f3, ef3⟩ : ∃ z, z = u2 := ⟨_, rfl⟩; subst ef3
    try dsimp only at hP hD hw
    have hP : va_P (dC, dI) vwCl [((rm 41), .inl (cy 0, 4, .inl g_many)), ((rm 56), .inl (cy 0, 9, .inl g_now)), ((rm 81), .inl (cy 0, 180, .inl g_kept0)), (a_this, .inr (10, mfs rm x_taped x_at x_end x_ended x_bad x_badPlace x_fault x_faultPlace x_namePlace x_awayTold x_away x_coded x_statements x_isCrossing x_textKind x_askSecond x_redMany x_isOpen x_lastGreen x_greenTo x_isCycleGreen x_stillGreen x_rowMany x_fitMany x_fitRules x_fitGreen x_undoable x_newest x_seeded x_qCoded x_qWaits x_qOpened x_qBase x_qPiled x_qAnswer x_qIsNew x_octets)), ((rm 9), .inl (cy 0, 6, .inl f3))] H := hP
    have hD : va_D A [((rm 41), .inl (cy 0, 4, .inl g_many)), ((rm 56), .inl (cy 0, 9, .inl g_now)), ((rm 81), .inl (cy 0, 180, .inl g_kept0)), (a_this, .inr (10, mfs rm x_taped x_at x_end x_ended x_bad x_badPlace x_fault x_faultPlace x_namePlace x_awayTold x_away x_coded x_statements x_isCrossing x_textKind x_askSecond x_redMany x_isOpen x_lastGreen x_greenTo x_isCycleGreen x_stillGreen x_rowMany x_fitMany x_fitRules x_fitGreen x_undoable x_newest x_seeded x_qCoded x_qWaits x_qOpened x_qBase x_qPiled x_qAnswer x_qIsNew x_octets)), ((rm 9), .inl (cy 0, 6, .inl f3))] := hD
    have h4 := hw
    subst hQ; exact k_iret hx hb hr hlk (ib_bool (ib_w 0 1 h4 (by decide))) ((x_undoable, x_newest, g_now, g_kept0, f3)) hS ⟨ib_w 0 20 hx_undoable (by decide), ib_w 0 19 hx_newest (by decide), ib_w 0 1 h4 (by decide), fun hq9 => absurd (ib_one h4 (by decide)) hq9, fun hq9 => absurd (ib_one h4 (by decide)) hq9, fun hq9 => absurd (ib_one h4 (by decide)) hq9, fun hq9 => absurd (ib_one h4 (by decide)) hq9⟩ (hP.sub [3, 0, 1, 2, 4] rfl) (hD.sub [3, 0, 1, 2, 4] (by decide) rfl) (Nat.le_of_ble_eq_true rfl) (Nat.le_of_ble_eq_true rfl) dX10_trust_33
  refine lv_aload_n hx hb dX10_trust_0 rfl (lv_at hl 0 rfl) ?_
  refine lv_iload_n hx hb dX10_trust_1 rfl (lv_at hl 1 rfl) ?_
  refine k_ji hP hD hS hA [0, 1] [2, 3, 4] (wr := [((rm 56), .inl (cy 0, 9, .inl g_now)), ((rm 81), .inl (cy 0, 180, .inl g_kept0)), ((rm 9), .inl (cy 0, 6, .inl g_refused))]) rfl rfl (by decide) (by decide) (by decide) 0 0 (Nat.le_of_ble_eq_true rfl) (Nat.le_of_ble_eq_true rfl) (fun hPc hDc => k_runV (As := [.int p0]) (rest := []) C0 hZ hS hA (s_X10_isKind l dC dI cy sq a_this rm x_taped x_at x_end x_ended x_bad x_badPlace x_fault x_faultPlace x_namePlace x_awayTold x_away x_coded x_statements x_isCrossing x_textKind x_askSecond x_redMany x_isOpen x_lastGreen x_greenTo x_isCycleGreen x_stillGreen x_rowMany x_fitMany x_fitRules x_fitGreen x_undoable x_newest x_seeded x_qCoded x_qWaits x_qOpened x_qBase x_qPiled x_qAnswer x_qIsNew x_octets g_many p0 (ib_w 0 6 hg_many_2 (by decide))) mV_X10_528 hPc hDc rfl rfl rfl hl rfl rfl (Nat.le_of_ble_eq_true rfl) ⟨(Nat.le_of_ble_eq_true rfl), (Nat.le_of_ble_eq_true rfl)⟩ ⟨(Nat.le_of_ble_eq_true rfl), (Nat.le_of_ble_eq_true rfl)⟩ dX10_trust_2) (fun r5 u6 H locs hw hP hD hS => ?_)
  try dsimp only at hP hD hw
  have hP : va_P (dC, dI) vwCl [((rm 56), .inl (cy 0, 9, .inl g_now)), ((rm 81), .inl (cy 0, 180, .inl g_kept0)), ((rm 9), .inl (cy 0, 6, .inl g_refused)), (a_this, .inr (10, mfs rm x_taped x_at x_end x_ended x_bad x_badPlace x_fault x_faultPlace x_namePlace x_awayTold x_away x_coded x_statements x_isCrossing x_textKind x_askSecond x_redMany x_isOpen x_lastGreen x_greenTo x_isCycleGreen x_stillGreen x_rowMany x_fitMany x_fitRules x_fitGreen x_undoable x_newest x_seeded x_qCoded x_qWaits x_qOpened x_qBase x_qPiled x_qAnswer x_qIsNew x_octets)), ((rm 41), .inl (cy 0, 4, .inl g_many))] H := hP
  have hD : va_D A [((rm 56), .inl (cy 0, 9, .inl g_now)), ((rm 81), .inl (cy 0, 180, .inl g_kept0)), ((rm 9), .inl (cy 0, 6, .inl g_refused)), (a_this, .inr (10, mfs rm x_taped x_at x_end x_ended x_bad x_badPlace x_fault x_faultPlace x_namePlace x_awayTold x_away x_coded x_statements x_isCrossing x_textKind x_askSecond x_redMany x_isOpen x_lastGreen x_greenTo x_isCycleGreen x_stillGreen x_rowMany x_fitMany x_fitRules x_fitGreen x_undoable x_newest x_seeded x_qCoded x_qWaits x_qOpened x_qBase x_qPiled x_qAnswer x_qIsNew x_octets)), ((rm 41), .inl (cy 0, 4, .inl g_many))] := hD
  obtain ⟨h7, h8, h9⟩ := hw
  refine lv_if_eq (tgt := 29) hx hb dX10_trust_5 (by decide) (fun c10 => ?_) (fun c10 => ?_)
  · have h11 := ib_eq h7 (ib_c 0 0 0 (by decide)) c10
    have h12 : ib r5 0 0 := ib_w 0 0 h11.1 (by decide)
    exact jn29  H locs ls  (hP.sub [3, 4, 0, 1, 2] rfl) (hD.sub [3, 4, 0, 1, 2] (by decide) rfl) hS (lv_sub hl [0, 1, 2] rfl)
  · have h13 : ib r5 1 1 := ib_w 1 1 (ib_ne_lo 0 h7 (by decide) c10) (by decide)
    have h14 : ib (g_many 2) 1 6 := ib_w 1 6 (ib_two hg_many_2 (h8 (ib_nz h13 (by decide)))) (by decide)
    have h15 : ib p0 0 5 := ib_w 0 5 (ib_two (ib_any p0) (h9 (ib_nz h13 (by decide)))) (by decide)
    refine lv_iload_n hx hb dX10_trust_8 rfl (lv_at hl 2 rfl) ?_
    refine lv_i2l (v := p1.toInt64) hx hb dX10_trust_9 rfl ?_
    refine lv_lconst (v := 0) hx hb dX10_trust_10 (by decide) ?_
    refine lv_ldc2 hx hb C0.2.2.2.1 (C0.2.2.2.2.1 _ wd1174) dX10_trust_11 ?_
    refine k_ji hP hD hS hA [] [0, 1, 2, 3, 4] (wr := [((rm 56), .inl (cy 0, 9, .inl g_now)), ((rm 81), .inl (cy 0, 180, .inl g_kept0)), ((rm 9), .inl (cy 0, 6, .inl g_refused)), (a_this, .inr (10, mfs rm x_taped x_at x_end x_ended x_bad x_badPlace x_fault x_faultPlace x_namePlace x_awayTold x_away x_coded x_statements x_isCrossing x_textKind x_askSecond x_redMany x_isOpen x_lastGreen x_greenTo x_isCycleGreen x_stillGreen x_rowMany x_fitMany x_fitRules x_fitGreen x_undoable x_newest x_seeded x_qCoded x_qWaits x_qOpened x_qBase x_qPiled x_qAnswer x_qIsNew x_octets)), ((rm 41), .inl (cy 0, 4, .inl g_many))]) rfl rfl (by decide) (by decide) (by decide) 0 0 (Nat.le_of_ble_eq_true rfl) (Nat.le_of_ble_eq_true rfl) (fun hPc hDc => k_runS (As := [.long p1.toInt64, .long 0, .long 9]) (rest := []) C0 hZ hS hA (c_isIn l dC dI cy sq p1.toInt64 0 9) mS_X10_318 hPc hDc hl rfl rfl (Nat.le_of_ble_eq_true rfl) ⟨(Nat.le_of_ble_eq_true rfl), (Nat.le_of_ble_eq_true rfl)⟩ ⟨(Nat.le_of_ble_eq_true rfl), (Nat.le_of_ble_eq_true rfl)⟩ dX10_trust_14) (fun r16 u17 H locs hw hP hD hS => ?_)
    have hP : va_P (dC, dI) vwCl [((rm 56), .inl (cy 0, 9, .inl g_now)), ((rm 81), .inl (cy 0, 180, .inl g_kept0)), ((rm 9), .inl (cy 0, 6, .inl g_refused)), (a_this, .inr (10, mfs rm x_taped x_at x_end x_ended x_bad x_badPlace x_fault x_faultPlace x_namePlace x_awayTold x_away x_coded x_statements x_isCrossing x_textKind x_askSecond x_redMany x_isOpen x_lastGreen x_greenTo x_isCycleGreen x_stillGreen x_rowMany x_fitMany x_fitRules x_fitGreen x_undoable x_newest x_seeded x_qCoded x_qWaits x_qOpened x_qBase x_qPiled x_qAnswer x_qIsNew x_octets)), ((rm 41), .inl (cy 0, 4, .inl g_many))] H := hP
    have hD : va_D A [((rm 56), .inl (cy 0, 9, .inl g_now)), ((rm 81), .inl (cy 0, 180, .inl g_kept0)), ((rm 9), .inl (cy 0, 6, .inl g_refused)), (a_this, .inr (10, mfs rm x_taped x_at x_end x_ended x_bad x_badPlace x_fault x_faultPlace x_namePlace x_awayTold x_away x_coded x_statements x_isCrossing x_textKind x_askSecond x_redMany x_isOpen x_lastGreen x_greenTo x_isCycleGreen x_stillGreen x_rowMany x_fitMany x_fitRules x_fitGreen x_undoable x_newest x_seeded x_qCoded x_qWaits x_qOpened x_qBase x_qPiled x_qAnswer x_qIsNew x_octets)), ((rm 41), .inl (cy 0, 4, .inl g_many))] := hD
    have h18 := hw
    have h19 : ib r16 0 1 := by rw [h18]; exact k_isf_01 _ _ _
    refine lv_if_eq (tgt := 29) hx hb dX10_trust_17 (by decide) (fun c20 => ?_) (fun c20 => ?_)
    · have h21 := ib_eq h19 (ib_c 0 0 0 (by decide)) c20
      have h22 : ib r16 0 0 := ib_w 0 0 h21.1 (by decide)
      exact jn29  H locs ls  (hP.sub [3, 4, 0, 1, 2] rfl) (hD.sub [3, 4, 0, 1, 2] (by decide) rfl) hS (lv_sub hl [0, 1, 2] rfl)
    · have h23 : ib r16 1 1 := ib_w 1 1 (ib_ne_lo 0 h19 (by decide) c20) (by decide)
      have h24 : ib p1 0 9 := ib_w 0 9 (ib_two (ib_any p1) (k_isf_v h18 (show 0 ≤ (0 : Int64).toInt by decide) (show (9 : Int64).toInt ≤ 9 by decide) (ib_nz h23 (by decide)))) (by decide)
      refine lv_aload_n hx hb dX10_trust_20 rfl (lv_at hl 0 rfl) ?_
      refine lv_iload_n hx hb dX10_trust_21 rfl (lv_at hl 1 rfl) ?_
      refine k_ji hP hD hS hA [3, 0] [1, 2, 4] (wr := [((rm 81), .inl (cy 0, 180, .inl g_kept0)), ((rm 9), .inl (cy 0, 6, .inl g_refused)), ((rm 41), .inl (cy 0, 4, .inl g_many))]) rfl rfl (by decide) (by decide) (by decide) 0 0 (Nat.le_of_ble_eq_true rfl) (Nat.le_of_ble_eq_true rfl) (fun hPc hDc => k_runV (As := [.int p0]) (rest := []) C0 hZ hS hA (s_X10_trustsOf l dC dI cy sq a_this rm x_taped x_at x_end x_ended x_bad x_badPlace x_fault x_faultPlace x_namePlace x_awayTold x_away x_coded x_statements x_isCrossing x_textKind x_askSecond x_redMany x_isOpen x_lastGreen x_greenTo x_isCycleGreen x_stillGreen x_rowMany x_fitMany x_fitRules x_fitGreen x_undoable x_newest x_seeded x_qCoded x_qWaits x_qOpened x_qBase x_qPiled x_qAnswer x_qIsNew x_octets g_now p0 (ib_w 0 5 h15 (by decide))) mV_X10_463 hPc hDc rfl rfl rfl hl rfl rfl (Nat.le_of_ble_eq_true rfl) ⟨(Nat.le_of_ble_eq_true rfl), (Nat.le_of_ble_eq_true rfl)⟩ ⟨(Nat.le_of_ble_eq_true rfl), (Nat.le_of_ble_eq_true rfl)⟩ dX10_trust_22) (fun r25 u26 H locs hw hP hD hS => ?_)
      try dsimp only at hP hD hw
      have hP : va_P (dC, dI) vwCl [((rm 81), .inl (cy 0, 180, .inl g_kept0)), ((rm 9), .inl (cy 0, 6, .inl g_refused)), ((rm 41), .inl (cy 0, 4, .inl g_many)), (a_this, .inr (10, mfs rm x_taped x_at x_end x_ended x_bad x_badPlace x_fault x_faultPlace x_namePlace x_awayTold x_away x_coded x_statements x_isCrossing x_textKind x_askSecond x_redMany x_isOpen x_lastGreen x_greenTo x_isCycleGreen x_stillGreen x_rowMany x_fitMany x_fitRules x_fitGreen x_undoable x_newest x_seeded x_qCoded x_qWaits x_qOpened x_qBase x_qPiled x_qAnswer x_qIsNew x_octets)), ((rm 56), .inl (cy 0, 9, .inl g_now))] H := hP
      have hD : va_D A [((rm 81), .inl (cy 0, 180, .inl g_kept0)), ((rm 9), .inl (cy 0, 6, .inl g_refused)), ((rm 41), .inl (cy 0, 4, .inl g_many)), (a_this, .inr (10, mfs rm x_taped x_at x_end x_ended x_bad x_badPlace x_fault x_faultPlace x_namePlace x_awayTold x_away x_coded x_statements x_isCrossing x_textKind x_askSecond x_redMany x_isOpen x_lastGreen x_greenTo x_isCycleGreen x_stillGreen x_rowMany x_fitMany x_fitRules x_fitGreen x_undoable x_newest x_seeded x_qCoded x_qWaits x_qOpened x_qBase x_qPiled x_qAnswer x_qIsNew x_octets)), ((rm 56), .inl (cy 0, 9, .inl g_now))] := hD
      refine lv_iload_n hx hb dX10_trust_25 rfl (lv_at hl 2 rfl) ?_
      refine lv_icmp_ne (tgt := 34) hx hb dX10_trust_26 (by decide) (fun c27 => ?_) (fun c27 => ?_)
      · skip
        refine lv_aload_n hx hb dX10_trust_34 rfl (lv_at hl 0 rfl) ?_
        refine k_jv hP hD hS hA [3, 4, 0] [1, 2] (wr := [((rm 9), .inl (cy 0, 6, .inl g_refused)), ((rm 41), .inl (cy 0, 4, .inl g_many))]) rfl rfl (by decide) (by decide) (by decide) 0 0 (Nat.le_of_ble_eq_true rfl) (Nat.le_of_ble_eq_true rfl) (fun hPc hDc => k_runV (As := []) (rest := []) C0 hZ hS hA (s_X10_keeps l dC dI cy sq a_this rm x_taped x_at x_end x_ended x_bad x_badPlace x_fault x_faultPlace x_namePlace x_awayTold x_away x_coded x_statements x_isCrossing x_textKind x_askSecond x_redMany x_isOpen x_lastGreen x_greenTo x_isCycleGreen x_stillGreen x_rowMany x_fitMany x_fitRules x_fitGreen x_undoable x_newest x_seeded x_qCoded x_qWaits x_qOpened x_qBase x_qPiled x_qAnswer x_qIsNew x_octets g_now g_kept0 (ib_w 0 20 hx_undoable (by decide)) (ib_w 0 19 hx_newest (by decide))) mV_X10_594 hPc hDc rfl rfl rfl hl rfl rfl (Nat.le_of_ble_eq_true rfl) ⟨(Nat.le_of_ble_eq_true rfl), (Nat.le_of_ble_eq_true rfl)⟩ ⟨(Nat.le_of_ble_eq_true rfl), (Nat.le_of_ble_eq_true rfl)⟩ dX10_trust_35) (fun u29 H locs hw hP hD hS => ?_)
        obtain ⟨v30, v31, f32⟩ := u29
        try dsimp only at hP hD hw
        have hP : va_P (dC, dI) vwCl [((rm 9), .inl (cy 0, 6, .inl g_refused)), ((rm 41), .inl (cy 0, 4, .inl g_many)), (a_this, .inr (10, mfs rm x_taped x_at x_end x_ended x_bad x_badPlace x_fault x_faultPlace x_namePlace x_awayTold x_away x_coded x_statements x_isCrossing x_textKind x_askSecond x_redMany x_isOpen x_lastGreen x_greenTo x_isCycleGreen x_stillGreen x_rowMany x_fitMany x_fitRules x_fitGreen v30 v31 x_seeded x_qCoded x_qWaits x_qOpened x_qBase x_qPiled x_qAnswer x_qIsNew x_octets)), ((rm 56), .inl (cy 0, 9, .inl g_now)), ((rm 81), .inl (cy 0, 180, .inl f32))] H := hP
        have hD : va_D A [((rm 9), .inl (cy 0, 6, .inl g_refused)), ((rm 41), .inl (cy 0, 4, .inl g_many)), (a_this, .inr (10, mfs rm x_taped x_at x_end x_ended x_bad x_badPlace x_fault x_faultPlace x_namePlace x_awayTold x_away x_coded x_statements x_isCrossing x_textKind x_askSecond x_redMany x_isOpen x_lastGreen x_greenTo x_isCycleGreen x_stillGreen x_rowMany x_fitMany x_fitRules x_fitGreen v30 v31 x_seeded x_qCoded x_qWaits x_qOpened x_qBase x_qPiled x_qAnswer x_qIsNew x_octets)), ((rm 56), .inl (cy 0, 9, .inl g_now)), ((rm 81), .inl (cy 0, 180, .inl f32))] := hD
        obtain ⟨h33, h34⟩ := hw
        refine lv_aload_n hx hb dX10_trust_38 rfl (lv_at hl 0 rfl) ?_
        refine k_get C0 fg_X10_139 hP 2 rfl rfl dX10_trust_39 ?_
        refine lv_iconst (v := 3) hx hb dX10_trust_42 (by decide) ?_
        refine lv_iload_n hx hb dX10_trust_43 rfl (lv_at hl 1 rfl) ?_
        refine lv_iadd hx hb dX10_trust_44 ?_
        refine lv_topi (fun z35 ez35 => ?_)
        have h36 := ib_add (ib_c 3 3 3 (by decide)) h15 (by decide)
        rw [← ez35] at h36
        have h37 : ib z35 3 8 := ib_w 3 8 h36.1 (by decide)
        refine lv_iload_n hx hb dX10_trust_45 rfl (lv_at hl 2 rfl) ?_
        refine va_iast hx hb C0.2.2.2.2.2.1 hP hD hS 3 0 rfl rfl (ib_in 9 h37 (by decide)) dX10_trust_46 (fun H locs hP hD hS => ?_)
        have hP : va_P (dC, dI) vwCl [((rm 9), .inl (cy 0, 6, .inl g_refused)), ((rm 41), .inl (cy 0, 4, .inl g_many)), (a_this, .inr (10, mfs rm x_taped x_at x_end x_ended x_bad x_badPlace x_fault x_faultPlace x_namePlace x_awayTold x_away x_coded x_statements x_isCrossing x_textKind x_askSecond x_redMany x_isOpen x_lastGreen x_greenTo x_isCycleGreen x_stillGreen x_rowMany x_fitMany x_fitRules x_fitGreen v30 v31 x_seeded x_qCoded x_qWaits x_qOpened x_qBase x_qPiled x_qAnswer x_qIsNew x_octets)), ((rm 56), .inl (cy 0, 9, .inl (upd g_now (Int32.toNatClampNeg z35) p1))), ((rm 81), .inl (cy 0, 180, .inl f32))] H := hP
        have hD : va_D A [((rm 9), .inl (cy 0, 6, .inl g_refused)), ((rm 41), .inl (cy 0, 4, .inl g_many)), (a_this, .inr (10, mfs rm x_taped x_at x_end x_ended x_bad x_badPlace x_fault x_faultPlace x_namePlace x_awayTold x_away x_coded x_statements x_isCrossing x_textKind x_askSecond x_redMany x_isOpen x_lastGreen x_greenTo x_isCycleGreen x_stillGreen x_rowMany x_fitMany x_fitRules x_fitGreen v30 v31 x_seeded x_qCoded x_qWaits x_qOpened x_qBase x_qPiled x_qAnswer x_qIsNew x_octets)), ((rm 56), .inl (cy 0, 9, .inl (upd g_now (Int32.toNatClampNeg z35) p1))), ((rm 81), .inl (cy 0, 180, .inl f32))] := hD
        generalize upd g_now (Int32.toNatClampNeg z35) p1 = f38 at hP hD
        refine lv_iconst (v := 1) hx hb dX10_trust_47 (by decide) ?_
        subst hQ; exact k_iret hx hb hr hlk (k_nb 1 (by decide)) ((v30, v31, f38, f32, g_refused)) hS ⟨ib_w 0 20 h33 (by decide), ib_w 0 19 h34 (by decide), ib_w 0 1 (ib_c 1 1 1 (by decide)) (by decide), fun _ => ib_w 1 20 h33 (by decide), fun _ => ib_w 1 6 h14 (by decide), fun _ => ib_w 0 5 h15 (by decide), fun _ => ib_w 0 9 h24 (by decide)⟩ (hP.sub [2, 1, 3, 4, 0] rfl) (hD.sub [2, 1, 3, 4, 0] (by decide) rfl) (Nat.le_of_ble_eq_true rfl) (Nat.le_of_ble_eq_true rfl) dX10_trust_48
      · have h39 := ib_eq (ib_any r25) h24 c27
        have h40 : ib r25 0 9 := ib_w 0 9 h39.1 (by decide)
        exact jn29  H locs ls  (hP.sub [3, 2, 4, 0, 1] rfl) (hD.sub [3, 2, 4, 0, 1] (by decide) rfl) hS (lv_sub hl [0, 1, 2] rfl)
set_option maxHeartbeats 4000000 in
set_option maxRecDepth 100000 in
theorem s_X10_undo (l : Launch) (dC : Nat → ClassId) (dI : Nat → Nat → Nat) (cy : Nat → ClassId) (sq : Nat → Nat) (a_this : Nat) (rm : Nat → Nat) (x_taped : Int32) (x_at : Int32) (x_end : Int32) (x_ended : Int32) (x_bad : Int32) (x_badPlace : Int32) (x_fault : Int32) (x_faultPlace : Int32) (x_namePlace : Int32) (x_awayTold : Int32) (x_away : Int32) (x_coded : Int32) (x_statements : Int32) (x_isCrossing : Int32) (x_textKind : Int32) (x_askSecond : Int32) (x_redMany : Int32) (x_isOpen : Int32) (x_lastGreen : Int32) (x_greenTo : Int32) (x_isCycleGreen : Int32) (x_stillGreen : Int32) (x_rowMany : Int32) (x_fitMany : Int32) (x_fitRules : Int32) (x_fitGreen : Int32) (x_undoable : Int32) (x_newest : Int32) (x_seeded : Int64) (x_qCoded : Int32) (x_qWaits : Int32) (x_qOpened : Int32) (x_qBase : Int32) (x_qPiled : Int32) (x_qAnswer : Int64) (x_qIsNew : Int32) (x_octets : Int32) (g_refused : Nat → Int32) (g_now : Nat → Int32) (g_kept0 : Nat → Int32) (hx_undoable : ib x_undoable 0 20) (hx_newest : ib x_newest 0 19) : k_Met l yX10_undo cX10_undo 2 (some .boolean) { frames := 0, cells := 0, slots := 0, locals := 0 } dC dI cy sq [.ref a_this] [(a_this, .inr (10, mfs rm x_taped x_at x_end x_ended x_bad x_badPlace x_fault x_faultPlace x_namePlace x_awayTold x_away x_coded x_statements x_isCrossing x_textKind x_askSecond x_redMany x_isOpen x_lastGreen x_greenTo x_isCycleGreen x_stillGreen x_rowMany x_fitMany x_fitRules x_fitGreen x_undoable x_newest x_seeded x_qCoded x_qWaits x_qOpened x_qBase x_qPiled x_qAnswer x_qIsNew x_octets)), ((rm 9), .inl (cy 0, 6, .inl g_refused)), ((rm 81), .inl (cy 0, 180, .inl g_kept0)), ((rm 56), .inl (cy 0, 9, .inl g_now))] (k_Qi dC dI (fun (r : Int32) (u : Int32 × Int32 × (Nat → Int32) × (Nat → Int32)) => match u with | (n0, n1, n2, n3) => ib n0 0 19 ∧ ib n1 0 19 ∧ ib r 0 1 ∧ (¬ r = 0 → ib x_undoable 1 20)) (fun u : Int32 × Int32 × (Nat → Int32) × (Nat → Int32) => match u with | (n0, n1, n2, n3) => [(a_this, .inr (10, mfs rm x_taped x_at x_end x_ended x_bad x_badPlace x_fault x_faultPlace x_namePlace x_awayTold x_away x_coded x_statements x_isCrossing x_textKind x_askSecond x_redMany x_isOpen x_lastGreen x_greenTo x_isCycleGreen x_stillGreen x_rowMany x_fitMany x_fitRules x_fitGreen n0 n1 x_seeded x_qCoded x_qWaits x_qOpened x_qBase x_qPiled x_qAnswer x_qIsNew x_octets)), ((rm 9), .inl (cy 0, 6, .inl n2)), ((rm 81), .inl (cy 0, 180, .inl g_kept0)), ((rm 56), .inl (cy 0, 9, .inl n3))])) := by
  refine k_ofW2 (by decide +kernel) (Nat.le_of_ble_eq_true rfl) ?_
  intro p e s m below meth c A ls H locs args Q hQ C0 hZ hr hlk hin hP hD hA hS hl
  have C0 : k_cx p s m args c cX10_undo 2 RX10 dC dI cy sq := C0
  have hx := C0.1
  have hb := C0.2.1
  have hl : lv_has ls 2 [(0, .ref a_this)] := hl
  have jn21 : ∀ (n : Nat) (J21_l1 : Int32) (J21_a3 : Nat → Int32) (H : Heap) (locs : List Loc) (ls : Array Slot), ib x_undoable 1 20 → ib J21_l1 0 9 → 10 ≤ J21_l1.toInt + (n : Int) → va_P (dC, dI) vwCl [(a_this, .inr (10, mfs rm x_taped x_at x_end x_ended x_bad x_badPlace x_fault x_faultPlace x_namePlace x_awayTold x_away x_coded x_statements x_isCrossing x_textKind x_askSecond x_redMany x_isOpen x_lastGreen x_greenTo x_isCycleGreen x_stillGreen x_rowMany x_fitMany x_fitRules x_fitGreen x_undoable x_newest x_seeded x_qCoded x_qWaits x_qOpened x_qBase x_qPiled x_qAnswer x_qIsNew x_octets)), ((rm 9), .inl (cy 0, 6, .inl g_refused)), ((rm 81), .inl (cy 0, 180, .inl g_kept0)), ((rm 56), .inl (cy 0, 9, .inl J21_a3))] H → va_D A [(a_this, .inr (10, mfs rm x_taped x_at x_end x_ended x_bad x_badPlace x_fault x_faultPlace x_namePlace x_awayTold x_away x_coded x_statements x_isCrossing x_textKind x_askSecond x_redMany x_isOpen x_lastGreen x_greenTo x_isCycleGreen x_stillGreen x_rowMany x_fitMany x_fitRules x_fitGreen x_undoable x_newest x_seeded x_qCoded x_qWaits x_qOpened x_qBase x_qPiled x_qAnswer x_qIsNew x_octets)), ((rm 9), .inl (cy 0, 6, .inl g_refused)), ((rm 81), .inl (cy 0, 180, .inl g_kept0)), ((rm 56), .inl (cy 0, 9, .inl J21_a3))] → va_S A s.heap H locs → lv_has ls 2 [(0, .ref a_this), (1, .int J21_l1)] → W p l e { frames := 0, cells := 0, slots := 0, locals := 0 } s m args below meth c H locs 0 0 Q (F0 m 21 ls []) := by
    intro n
    induction n with
    | zero =>
      intro J21_l1 J21_a3 H locs ls hK21_x_undoable hJ21_l1 hm
      exact absurd hm (by have := hJ21_l1; unfold ib at this; omega)
    | succ n ih =>
      intro J21_l1 J21_a3 H locs ls hK21_x_undoable hJ21_l1 hm21 hP hD hS hl
      have ih21 := ih
      refine lv_iload_n hx hb dX10_undo_21 rfl (lv_at hl 1 rfl) ?_
      refine lv_bipush (v := 9) hx hb dX10_undo_22 (by decide) ?_
      refine lv_icmp_ge (tgt := 53) hx hb dX10_undo_24 (by decide) (fun c1 => ?_) (fun c1 => ?_)
      · have h2 := ib_le (ib_c 9 9 9 (by decide)) hJ21_l1 c1
        have h3 : ib J21_l1 9 9 := ib_w 9 9 h2.2 (by decide)
        refine lv_aload_n hx hb dX10_undo_53 rfl (lv_at hl 0 rfl) ?_
        refine lv_aload_n hx hb dX10_undo_54 rfl (lv_at hl 0 rfl) ?_
        refine k_get C0 fg_X10_588 hP 0 rfl rfl dX10_undo_55 ?_
        refine lv_bipush (v := 20) hx hb dX10_undo_58 (by decide) ?_
        refine lv_iadd hx hb dX10_undo_60 ?_
        refine lv_topi (fun z4 ez4 => ?_)
        have h5 := ib_add hx_newest (ib_c 20 20 20 (by decide)) (by decide)
        rw [← ez4] at h5
        have h6 : ib z4 20 39 := ib_w 20 39 h5.1 (by decide)
        refine lv_iconst (v := 1) hx hb dX10_undo_61 (by decide) ?_
        refine lv_isub hx hb dX10_undo_62 ?_
        refine lv_topi (fun z7 ez7 => ?_)
        have h8 := ib_sub h6 (ib_c 1 1 1 (by decide)) (by decide)
        rw [← ez7] at h8
        have h9 : ib z7 19 38 := ib_w 19 38 h8.1 (by decide)
        refine lv_bipush (v := 20) hx hb dX10_undo_63 (by decide) ?_
        refine lv_irem hx hb dX10_undo_65 (by decide) ?_
        refine lv_topi (fun z10 ez10 => ?_)
        have h11 : ib z10 0 19 := by rw [ez10]; exact ib_w 0 19 (ib_rem h9 (ib_c 20 20 20 (by decide)) (by decide)) (by decide)
        refine k_put C0 fp_X10_588 hP hD hS 0 rfl rfl rfl (Nat.le_of_ble_eq_true rfl) dX10_undo_66 (fun H locs hP hD hS => ?_)
        have hP : va_P (dC, dI) vwCl [(a_this, .inr (10, mfs rm x_taped x_at x_end x_ended x_bad x_badPlace x_fault x_faultPlace x_namePlace x_awayTold x_away x_coded x_statements x_isCrossing x_textKind x_askSecond x_redMany x_isOpen x_lastGreen x_greenTo x_isCycleGreen x_stillGreen x_rowMany x_fitMany x_fitRules x_fitGreen x_undoable z10 x_seeded x_qCoded x_qWaits x_qOpened x_qBase x_qPiled x_qAnswer x_qIsNew x_octets)), ((rm 9), .inl (cy 0, 6, .inl g_refused)), ((rm 81), .inl (cy 0, 180, .inl g_kept0)), ((rm 56), .inl (cy 0, 9, .inl J21_a3))] H := hP
        have hD : va_D A [(a_this, .inr (10, mfs rm x_taped x_at x_end x_ended x_bad x_badPlace x_fault x_faultPlace x_namePlace x_awayTold x_away x_coded x_statements x_isCrossing x_textKind x_askSecond x_redMany x_isOpen x_lastGreen x_greenTo x_isCycleGreen x_stillGreen x_rowMany x_fitMany x_fitRules x_fitGreen x_undoable z10 x_seeded x_qCoded x_qWaits x_qOpened x_qBase x_qPiled x_qAnswer x_qIsNew x_octets)), ((rm 9), .inl (cy 0, 6, .inl g_refused)), ((rm 81), .inl (cy 0, 180, .inl g_kept0)), ((rm 56), .inl (cy 0, 9, .inl J21_a3))] := hD
        refine lv_aload_n hx hb dX10_undo_69 rfl (lv_at hl 0 rfl) ?_
        refine lv_dup hx hb dX10_undo_70 rfl ?_
        refine k_get C0 fg_X10_424 hP 0 rfl rfl dX10_undo_71 ?_
        refine lv_iconst (v := 1) hx hb dX10_undo_74 (by decide) ?_
        refine lv_isub hx hb dX10_undo_75 ?_
        refine lv_topi (fun z12 ez12 => ?_)
        have h13 := ib_sub hK21_x_undoable (ib_c 1 1 1 (by decide)) (by decide)
        rw [← ez12] at h13
        have h14 : ib z12 0 19 := ib_w 0 19 h13.1 (by decide)
        refine k_put C0 fp_X10_424 hP hD hS 0 rfl rfl rfl (Nat.le_of_ble_eq_true rfl) dX10_undo_76 (fun H locs hP hD hS => ?_)
        have hP : va_P (dC, dI) vwCl [(a_this, .inr (10, mfs rm x_taped x_at x_end x_ended x_bad x_badPlace x_fault x_faultPlace x_namePlace x_awayTold x_away x_coded x_statements x_isCrossing x_textKind x_askSecond x_redMany x_isOpen x_lastGreen x_greenTo x_isCycleGreen x_stillGreen x_rowMany x_fitMany x_fitRules x_fitGreen z12 z10 x_seeded x_qCoded x_qWaits x_qOpened x_qBase x_qPiled x_qAnswer x_qIsNew x_octets)), ((rm 9), .inl (cy 0, 6, .inl g_refused)), ((rm 81), .inl (cy 0, 180, .inl g_kept0)), ((rm 56), .inl (cy 0, 9, .inl J21_a3))] H := hP
        have hD : va_D A [(a_this, .inr (10, mfs rm x_taped x_at x_end x_ended x_bad x_badPlace x_fault x_faultPlace x_namePlace x_awayTold x_away x_coded x_statements x_isCrossing x_textKind x_askSecond x_redMany x_isOpen x_lastGreen x_greenTo x_isCycleGreen x_stillGreen x_rowMany x_fitMany x_fitRules x_fitGreen z12 z10 x_seeded x_qCoded x_qWaits x_qOpened x_qBase x_qPiled x_qAnswer x_qIsNew x_octets)), ((rm 9), .inl (cy 0, 6, .inl g_refused)), ((rm 81), .inl (cy 0, 180, .inl g_kept0)), ((rm 56), .inl (cy 0, 9, .inl J21_a3))] := hD
        refine lv_iconst (v := 1) hx hb dX10_undo_79 (by decide) ?_
        subst hQ; exact k_iret hx hb hr hlk (k_nb 1 (by decide)) ((z12, z10, g_refused, J21_a3)) hS ⟨ib_w 0 19 h14 (by decide), ib_w 0 19 h11 (by decide), ib_w 0 1 (ib_c 1 1 1 (by decide)) (by decide), fun _ => ib_w 1 20 hK21_x_undoable (by decide)⟩ hP hD (Nat.le_of_ble_eq_true rfl) (Nat.le_of_ble_eq_true rfl) dX10_undo_80
      · have h15 := ib_nle (ib_c 9 9 9 (by decide)) hJ21_l1 c1
        have h16 : ib J21_l1 0 8 := ib_w 0 8 h15.2 (by decide)
        refine lv_aload_n hx hb dX10_undo_27 rfl (lv_at hl 0 rfl) ?_
        refine k_get C0 fg_X10_139 hP 0 rfl rfl dX10_undo_28 ?_
        refine lv_iload_n hx hb dX10_undo_31 rfl (lv_at hl 1 rfl) ?_
        refine lv_aload_n hx hb dX10_undo_32 rfl (lv_at hl 0 rfl) ?_
        refine k_get C0 fg_X10_182 hP 0 rfl rfl dX10_undo_33 ?_
        refine lv_bipush (v := 9) hx hb dX10_undo_36 (by decide) ?_
        refine lv_aload_n hx hb dX10_undo_38 rfl (lv_at hl 0 rfl) ?_
        refine k_get C0 fg_X10_588 hP 0 rfl rfl dX10_undo_39 ?_
        refine lv_imul hx hb dX10_undo_42 ?_
        refine lv_topi (fun z17 ez17 => ?_)
        have h18 := ib_mul (ib_c 9 9 9 (by decide)) hx_newest (by decide)
        rw [← ez17] at h18
        have h19 : ib z17 0 171 := ib_w 0 171 h18.1 (by decide)
        have h20 : z17.toInt = 9 * x_newest.toInt := by have q0 := h18.2; rw [show (9 : Int32).toInt = 9 from by decide] at q0; omega
        refine lv_iload_n hx hb dX10_undo_43 rfl (lv_at hl 1 rfl) ?_
        refine lv_iadd hx hb dX10_undo_44 ?_
        refine lv_topi (fun z21 ez21 => ?_)
        have h22 := ib_add h19 h16 (by decide)
        rw [← ez21] at h22
        have h23 : ib z21 0 179 := ib_w 0 179 h22.1 (by decide)
        refine va_iald hx hb C0.2.2.2.2.2.1 hP 2 0 rfl rfl (ib_in 180 h23 (by decide)) dX10_undo_45 ?_
        refine lv_topi (fun z24 ez24 => ?_)
        refine va_iast hx hb C0.2.2.2.2.2.1 hP hD hS 3 0 rfl rfl (ib_in 9 h16 (by decide)) dX10_undo_46 (fun H locs hP hD hS => ?_)
        have hP : va_P (dC, dI) vwCl [(a_this, .inr (10, mfs rm x_taped x_at x_end x_ended x_bad x_badPlace x_fault x_faultPlace x_namePlace x_awayTold x_away x_coded x_statements x_isCrossing x_textKind x_askSecond x_redMany x_isOpen x_lastGreen x_greenTo x_isCycleGreen x_stillGreen x_rowMany x_fitMany x_fitRules x_fitGreen x_undoable x_newest x_seeded x_qCoded x_qWaits x_qOpened x_qBase x_qPiled x_qAnswer x_qIsNew x_octets)), ((rm 9), .inl (cy 0, 6, .inl g_refused)), ((rm 81), .inl (cy 0, 180, .inl g_kept0)), ((rm 56), .inl (cy 0, 9, .inl (upd J21_a3 (Int32.toNatClampNeg J21_l1) z24)))] H := hP
        have hD : va_D A [(a_this, .inr (10, mfs rm x_taped x_at x_end x_ended x_bad x_badPlace x_fault x_faultPlace x_namePlace x_awayTold x_away x_coded x_statements x_isCrossing x_textKind x_askSecond x_redMany x_isOpen x_lastGreen x_greenTo x_isCycleGreen x_stillGreen x_rowMany x_fitMany x_fitRules x_fitGreen x_undoable x_newest x_seeded x_qCoded x_qWaits x_qOpened x_qBase x_qPiled x_qAnswer x_qIsNew x_octets)), ((rm 9), .inl (cy 0, 6, .inl g_refused)), ((rm 81), .inl (cy 0, 180, .inl g_kept0)), ((rm 56), .inl (cy 0, 9, .inl (upd J21_a3 (Int32.toNatClampNeg J21_l1) z24)))] := hD
        generalize upd J21_a3 (Int32.toNatClampNeg J21_l1) z24 = f25 at hP hD
        obtain ⟨z26, ez26⟩ : ∃ y : Int32, y = J21_l1 + 1 := ⟨_, rfl⟩
        refine lv_iinc (v := z26) (lv' := [(1, .int z26), (0, .ref a_this)]) hx hb dX10_undo_47 hl (k := 1) rfl (by rw [ez26]; rfl) (by decide) rfl (fun ls hl => ?_)
        have h27 := ib_add h16 (ib_c 1 1 1 (by decide)) (by decide)
        rw [← ez26] at h27
        have h28 : ib z26 1 9 := ib_w 1 9 h27.1 (by decide)
        refine lv_goto (tgt := 21) hx hb dX10_undo_50 (by decide) ?_
        exact ih21 z26 f25 H locs ls (ib_w 1 20 hK21_x_undoable (by decide)) (ib_w 0 9 h28 (by decide)) (by have := h27.2; have : (1 : Int32).toInt = 1 := (by decide); omega) hP hD hS (lv_sub hl [1, 0] rfl)
  refine lv_aload_n hx hb dX10_undo_0 rfl (lv_at hl 0 rfl) ?_
  refine k_get C0 fg_X10_424 hP 0 rfl rfl dX10_undo_1 ?_
  refine lv_if_ne (tgt := 19) hx hb dX10_undo_4 (by decide) (fun c29 => ?_) (fun c29 => ?_)
  · have h30 : ib x_undoable 1 20 := ib_w 1 20 (ib_ne_lo 0 hx_undoable (by decide) c29) (by decide)
    refine lv_iconst (v := 0) hx hb dX10_undo_19 (by decide) ?_
    refine lv_istore_n (lv' := [(1, .int 0), (0, .ref a_this)]) hx hb dX10_undo_20 rfl hl (by decide) rfl (fun ls hl => ?_)
    exact jn21 11 0 g_now H locs ls (ib_w 1 20 h30 (by decide)) (ib_w 0 9 (ib_c 0 0 0 (by decide)) (by decide)) (by have := (ib_c 0 0 0 (by decide)); unfold ib at this; omega) hP hD hS (lv_sub hl [1, 0] rfl)
  · have h31 := ib_eq hx_undoable (ib_c 0 0 0 (by decide)) c29
    have h32 : ib x_undoable 0 0 := ib_w 0 0 h31.1 (by decide)
    refine lv_aload_n hx hb dX10_undo_7 rfl (lv_at hl 0 rfl) ?_
    refine k_get C0 fg_X10_17 hP 0 rfl rfl dX10_undo_8 ?_
    refine lv_iconst (v := 4) hx hb dX10_undo_11 (by decide) ?_
    refine lv_dup2_11 hx hb dX10_undo_12 rfl rfl ?_
    refine va_iald hx hb C0.2.2.2.2.2.1 hP 1 0 rfl rfl (k_in 4 6 (by decide)) dX10_undo_13 ?_
    refine lv_topi (fun z33 ez33 => ?_)
    refine lv_iconst (v := 1) hx hb dX10_undo_14 (by decide) ?_
    refine lv_iadd hx hb dX10_undo_15 ?_
    refine lv_topi (fun z34 ez34 => ?_)
    refine va_iast hx hb C0.2.2.2.2.2.1 hP hD hS 1 0 rfl rfl (k_in 4 6 (by decide)) dX10_undo_16 (fun H locs hP hD hS => ?_)
    have hP : va_P (dC, dI) vwCl [(a_this, .inr (10, mfs rm x_taped x_at x_end x_ended x_bad x_badPlace x_fault x_faultPlace x_namePlace x_awayTold x_away x_coded x_statements x_isCrossing x_textKind x_askSecond x_redMany x_isOpen x_lastGreen x_greenTo x_isCycleGreen x_stillGreen x_rowMany x_fitMany x_fitRules x_fitGreen x_undoable x_newest x_seeded x_qCoded x_qWaits x_qOpened x_qBase x_qPiled x_qAnswer x_qIsNew x_octets)), ((rm 9), .inl (cy 0, 6, .inl (upd g_refused 4 z34))), ((rm 81), .inl (cy 0, 180, .inl g_kept0)), ((rm 56), .inl (cy 0, 9, .inl g_now))] H := hP
    have hD : va_D A [(a_this, .inr (10, mfs rm x_taped x_at x_end x_ended x_bad x_badPlace x_fault x_faultPlace x_namePlace x_awayTold x_away x_coded x_statements x_isCrossing x_textKind x_askSecond x_redMany x_isOpen x_lastGreen x_greenTo x_isCycleGreen x_stillGreen x_rowMany x_fitMany x_fitRules x_fitGreen x_undoable x_newest x_seeded x_qCoded x_qWaits x_qOpened x_qBase x_qPiled x_qAnswer x_qIsNew x_octets)), ((rm 9), .inl (cy 0, 6, .inl (upd g_refused 4 z34))), ((rm 81), .inl (cy 0, 180, .inl g_kept0)), ((rm 56), .inl (cy 0, 9, .inl g_now))] := hD
    generalize upd g_refused 4 z34 = f35 at hP hD
    refine lv_iconst (v := 0) hx hb dX10_undo_17 (by decide) ?_
    subst hQ; exact k_iret hx hb hr hlk (k_nb 0 (by decide)) ((x_undoable, x_newest, f35, g_now)) hS ⟨ib_w 0 19 h32 (by decide), ib_w 0 19 hx_newest (by decide), ib_w 0 1 (ib_c 0 0 0 (by decide)) (by decide), fun hq9 => absurd rfl hq9⟩ hP hD (Nat.le_of_ble_eq_true rfl) (Nat.le_of_ble_eq_true rfl) dX10_undo_18
set_option maxHeartbeats 4000000 in
set_option maxRecDepth 100000 in
theorem s_X10_walker (l : Launch) (dC : Nat → ClassId) (dI : Nat → Nat → Nat) (cy : Nat → ClassId) (sq : Nat → Nat) (a_this : Nat) (rm : Nat → Nat) (x_taped : Int32) (x_at : Int32) (x_end : Int32) (x_ended : Int32) (x_bad : Int32) (x_badPlace : Int32) (x_fault : Int32) (x_faultPlace : Int32) (x_namePlace : Int32) (x_awayTold : Int32) (x_away : Int32) (x_coded : Int32) (x_statements : Int32) (x_isCrossing : Int32) (x_textKind : Int32) (x_askSecond : Int32) (x_redMany : Int32) (x_isOpen : Int32) (x_lastGreen : Int32) (x_greenTo : Int32) (x_isCycleGreen : Int32) (x_stillGreen : Int32) (x_rowMany : Int32) (x_fitMany : Int32) (x_fitRules : Int32) (x_fitGreen : Int32) (x_undoable : Int32) (x_newest : Int32) (x_seeded : Int64) (x_qCoded : Int32) (x_qWaits : Int32) (x_qOpened : Int32) (x_qBase : Int32) (x_qPiled : Int32) (x_qAnswer : Int64) (x_qIsNew : Int32) (x_octets : Int32) (g_many : Nat → Int32) (g_bar : Nat → Int32) (g_kinds : Nat → Int32) (g_walkers : Nat → Int32) (g_codeFrom : Nat → Int32) (g_codeEnd : Nat → Int32) (g_codes : Nat → Int32) (g_now : Nat → Int32) (g_isCar : Nat → Int32) (g_gaps : Nat → Int32) (g_isGreen : Nat → Int32) (g_isHere : Nat → Int32) (g_crosses : Nat → Int32) (g_waits : Nat → Int32) (g_goes : Nat → Int32) (g_harms : Nat → Int32) (g_presses : Nat → Int32) (g_crossedIn : Nat → Int32) (g_qPile : Nat → Int64) (p0 : Int32) (p1 : Int32) (hx_isOpen : ib x_isOpen 0 1) (hx_isCycleGreen : ib x_isCycleGreen 0 1) (hx_qPiled : ib x_qPiled 0 1700) (hg_many_3 : ib (g_many 3) 0 12) (hg_bar_4 : ib (g_bar 4) 0 120) (hpg_walkers : ip g_walkers 48 2 0 0 5) (hg_codeFrom_3 : ib (g_codeFrom 3) (-1) 1600) (hg_codeFrom_4 : ib (g_codeFrom 4) (-1) 1600) (hg_codeEnd_3 : ib (g_codeEnd 3) 0 1600) (hg_codeEnd_4 : ib (g_codeEnd 4) 0 1600) (hg_gaps : ia g_gaps 300 0 20) (hG0 : ¬ g_codeFrom 3 = (-1) → okc g_codes 1600 false (g_codeFrom 3) (g_codeEnd 3)) (hG1 : ¬ g_codeFrom 4 = (-1) → okc g_codes 1600 true (g_codeFrom 4) (g_codeEnd 4)) (hc_m3 : ¬ (g_many 3) = 0 → ib (g_bar 4) 10 120) : k_Met l yX10_walker cX10_walker 3 (some .int) { frames := 7, cells := 0, slots := 0, locals := 157 } dC dI cy sq [.ref a_this, .int p0, .int p1] [(a_this, .inr (10, mfs rm x_taped x_at x_end x_ended x_bad x_badPlace x_fault x_faultPlace x_namePlace x_awayTold x_away x_coded x_statements x_isCrossing x_textKind x_askSecond x_redMany x_isOpen x_lastGreen x_greenTo x_isCycleGreen x_stillGreen x_rowMany x_fitMany x_fitRules x_fitGreen x_undoable x_newest x_seeded x_qCoded x_qWaits x_qOpened x_qBase x_qPiled x_qAnswer x_qIsNew x_octets)), ((rm 41), .inl (cy 0, 4, .inl g_many)), ((rm 49), .inl (cy 0, 6, .inl g_codeFrom)), ((rm 50), .inl (cy 0, 6, .inl g_codeEnd)), ((rm 116), .inl (cy 1, 1700, .inr (.inl g_qPile))), ((rm 51), .inl (cy 0, 3200, .inl g_codes)), ((rm 46), .inl (cy 0, 48, .inl g_walkers)), ((rm 56), .inl (cy 0, 9, .inl g_now)), ((rm 43), .inl (cy 0, 8, .inl g_bar)), ((rm 65), .inl (cy 0, 12, .inl g_waits)), ((rm 44), .inl (cy 0, 24, .inl g_kinds)), ((rm 61), .inl (cy 0, 300, .inl g_gaps)), ((rm 66), .inl (cy 3, 12, .inl g_goes)), ((rm 67), .inl (cy 3, 12, .inl g_harms)), ((rm 60), .inl (cy 3, 320, .inl g_isCar)), ((rm 63), .inl (cy 3, 12, .inl g_isHere)), ((rm 64), .inl (cy 0, 12, .inl g_crosses)), ((rm 68), .inl (cy 3, 12, .inl g_presses)), ((rm 69), .inl (cy 3, 300, .inl g_crossedIn)), ((rm 62), .inl (cy 3, 300, .inl g_isGreen))] (k_Qi dC dI (fun (r : Int32) (u : Int32 × Int32 × Int32 × Int32 × Int32 × Int32 × Int32 × Int32 × Int32 × (Nat → Int64) × (Nat → Int32) × (Nat → Int32) × (Nat → Int32) × (Nat → Int32) × (Nat → Int32) × (Nat → Int32) × (Nat → Int32) × (Nat → Int32) × (Nat → Int32) × (Nat → Int32)) => match u with | (n0, n1, n2, n3, n4, n5, n6, n7, n8, n9, n10, n11, n12, n13, n14, n15, n16, n17, n18, n19) => ib n3 0 1 ∧ ib n6 0 1 ∧ ib n8 0 1700 ∧ ia n11 300 0 20) (fun u : Int32 × Int32 × Int32 × Int32 × Int32 × Int32 × Int32 × Int32 × Int32 × (Nat → Int64) × (Nat → Int32) × (Nat → Int32) × (Nat → Int32) × (Nat → Int32) × (Nat → Int32) × (Nat → Int32) × (Nat → Int32) × (Nat → Int32) × (Nat → Int32) × (Nat → Int32) => match u with | (n0, n1, n2, n3, n4, n5, n6, n7, n8, n9, n10, n11, n12, n13, n14, n15, n16, n17, n18, n19) => [(a_this, .inr (10, mfs rm x_taped x_at x_end x_ended x_bad x_badPlace x_fault x_faultPlace x_namePlace x_awayTold x_away x_coded x_statements x_isCrossing n0 n1 n2 n3 n4 n5 n6 n7 x_rowMany x_fitMany x_fitRules x_fitGreen x_undoable x_newest x_seeded x_qCoded x_qWaits x_qOpened x_qBase n8 x_qAnswer x_qIsNew x_octets)), ((rm 41), .inl (cy 0, 4, .inl g_many)), ((rm 49), .inl (cy 0, 6, .inl g_codeFrom)), ((rm 50), .inl (cy 0, 6, .inl g_codeEnd)), ((rm 116), .inl (cy 1, 1700, .inr (.inl n9))), ((rm 51), .inl (cy 0, 3200, .inl g_codes)), ((rm 46), .inl (cy 0, 48, .inl g_walkers)), ((rm 56), .inl (cy 0, 9, .inl g_now)), ((rm 43), .inl (cy 0, 8, .inl g_bar)), ((rm 65), .inl (cy 0, 12, .inl n10)), ((rm 44), .inl (cy 0, 24, .inl g_kinds)), ((rm 61), .inl (cy 0, 300, .inl n11)), ((rm 66), .inl (cy 3, 12, .inl n12)), ((rm 67), .inl (cy 3, 12, .inl n13)), ((rm 60), .inl (cy 3, 320, .inl n14)), ((rm 63), .inl (cy 3, 12, .inl n15)), ((rm 64), .inl (cy 0, 12, .inl n16)), ((rm 68), .inl (cy 3, 12, .inl n17)), ((rm 69), .inl (cy 3, 300, .inl n18)), ((rm 62), .inl (cy 3, 300, .inl n19))])) := by
  refine k_ofW2 (by decide +kernel) (Nat.le_of_ble_eq_true rfl) ?_
  intro p e s m below meth c A ls H locs args Q hQ C0 hZ hr hlk hin hP hD hA hS hl
  have C0 : k_cx p s m args c cX10_walker 3 RX10 dC dI cy sq := C0
  have hx := C0.1
  have hb := C0.2.1
  have hl : lv_has ls 3 [(0, .ref a_this), (1, .int p0), (2, .int p1)] := hl
  refine lv_aload_n hx hb dX10_walker_0 rfl (lv_at hl 0 rfl) ?_
  refine lv_iload_n hx hb dX10_walker_1 rfl (lv_at hl 1 rfl) ?_
  refine k_ji hP hD hS hA [0, 1] [2, 3, 4, 5, 6, 7, 8, 9, 10, 11, 12, 13, 14, 15, 16, 17, 18, 19] (wr := [((rm 49), .inl (cy 0, 6, .inl g_codeFrom)), ((rm 50), .inl (cy 0, 6, .inl g_codeEnd)), ((rm 116), .inl (cy 1, 1700, .inr (.inl g_qPile))), ((rm 51), .inl (cy 0, 3200, .inl g_codes)), ((rm 46), .inl (cy 0, 48, .inl g_walkers)), ((rm 56), .inl (cy 0, 9, .inl g_now)), ((rm 43), .inl (cy 0, 8, .inl g_bar)), ((rm 65), .inl (cy 0, 12, .inl g_waits)), ((rm 44), .inl (cy 0, 24, .inl g_kinds)), ((rm 61), .inl (cy 0, 300, .inl g_gaps)), ((rm 66), .inl (cy 3, 12, .inl g_goes)), ((rm 67), .inl (cy 3, 12, .inl g_harms)), ((rm 60), .inl (cy 3, 320, .inl g_isCar)), ((rm 63), .inl (cy 3, 12, .inl g_isHere)), ((rm 64), .inl (cy 0, 12, .inl g_crosses)), ((rm 68), .inl (cy 3, 12, .inl g_presses)), ((rm 69), .inl (cy 3, 300, .inl g_crossedIn)), ((rm 62), .inl (cy 3, 300, .inl g_isGreen))]) rfl rfl (by decide) (by decide) (by decide) 0 0 (Nat.le_of_ble_eq_true rfl) (Nat.le_of_ble_eq_true rfl) (fun hPc hDc => k_runV (As := [.int p0]) (rest := []) C0 hZ hS hA (s_X10_isWalker l dC dI cy sq a_this rm x_taped x_at x_end x_ended x_bad x_badPlace x_fault x_faultPlace x_namePlace x_awayTold x_away x_coded x_statements x_isCrossing x_textKind x_askSecond x_redMany x_isOpen x_lastGreen x_greenTo x_isCycleGreen x_stillGreen x_rowMany x_fitMany x_fitRules x_fitGreen x_undoable x_newest x_seeded x_qCoded x_qWaits x_qOpened x_qBase x_qPiled x_qAnswer x_qIsNew x_octets g_many p0 (ib_w 0 12 hg_many_3 (by decide))) mV_X10_531 hPc hDc rfl rfl rfl hl rfl rfl (Nat.le_of_ble_eq_true rfl) ⟨(Nat.le_of_ble_eq_true rfl), (Nat.le_of_ble_eq_true rfl)⟩ ⟨(Nat.le_of_ble_eq_true rfl), (Nat.le_of_ble_eq_true rfl)⟩ dX10_walker_2) (fun r1 u2 H locs hw hP hD hS => ?_)
  try dsimp only at hP hD hw
  have hP : va_P (dC, dI) vwCl [((rm 49), .inl (cy 0, 6, .inl g_codeFrom)), ((rm 50), .inl (cy 0, 6, .inl g_codeEnd)), ((rm 116), .inl (cy 1, 1700, .inr (.inl g_qPile))), ((rm 51), .inl (cy 0, 3200, .inl g_codes)), ((rm 46), .inl (cy 0, 48, .inl g_walkers)), ((rm 56), .inl (cy 0, 9, .inl g_now)), ((rm 43), .inl (cy 0, 8, .inl g_bar)), ((rm 65), .inl (cy 0, 12, .inl g_waits)), ((rm 44), .inl (cy 0, 24, .inl g_kinds)), ((rm 61), .inl (cy 0, 300, .inl g_gaps)), ((rm 66), .inl (cy 3, 12, .inl g_goes)), ((rm 67), .inl (cy 3, 12, .inl g_harms)), ((rm 60), .inl (cy 3, 320, .inl g_isCar)), ((rm 63), .inl (cy 3, 12, .inl g_isHere)), ((rm 64), .inl (cy 0, 12, .inl g_crosses)), ((rm 68), .inl (cy 3, 12, .inl g_presses)), ((rm 69), .inl (cy 3, 300, .inl g_crossedIn)), ((rm 62), .inl (cy 3, 300, .inl g_isGreen)), (a_this, .inr (10, mfs rm x_taped x_at x_end x_ended x_bad x_badPlace x_fault x_faultPlace x_namePlace x_awayTold x_away x_coded x_statements x_isCrossing x_textKind x_askSecond x_redMany x_isOpen x_lastGreen x_greenTo x_isCycleGreen x_stillGreen x_rowMany x_fitMany x_fitRules x_fitGreen x_undoable x_newest x_seeded x_qCoded x_qWaits x_qOpened x_qBase x_qPiled x_qAnswer x_qIsNew x_octets)), ((rm 41), .inl (cy 0, 4, .inl g_many))] H := hP
  have hD : va_D A [((rm 49), .inl (cy 0, 6, .inl g_codeFrom)), ((rm 50), .inl (cy 0, 6, .inl g_codeEnd)), ((rm 116), .inl (cy 1, 1700, .inr (.inl g_qPile))), ((rm 51), .inl (cy 0, 3200, .inl g_codes)), ((rm 46), .inl (cy 0, 48, .inl g_walkers)), ((rm 56), .inl (cy 0, 9, .inl g_now)), ((rm 43), .inl (cy 0, 8, .inl g_bar)), ((rm 65), .inl (cy 0, 12, .inl g_waits)), ((rm 44), .inl (cy 0, 24, .inl g_kinds)), ((rm 61), .inl (cy 0, 300, .inl g_gaps)), ((rm 66), .inl (cy 3, 12, .inl g_goes)), ((rm 67), .inl (cy 3, 12, .inl g_harms)), ((rm 60), .inl (cy 3, 320, .inl g_isCar)), ((rm 63), .inl (cy 3, 12, .inl g_isHere)), ((rm 64), .inl (cy 0, 12, .inl g_crosses)), ((rm 68), .inl (cy 3, 12, .inl g_presses)), ((rm 69), .inl (cy 3, 300, .inl g_crossedIn)), ((rm 62), .inl (cy 3, 300, .inl g_isGreen)), (a_this, .inr (10, mfs rm x_taped x_at x_end x_ended x_bad x_badPlace x_fault x_faultPlace x_namePlace x_awayTold x_away x_coded x_statements x_isCrossing x_textKind x_askSecond x_redMany x_isOpen x_lastGreen x_greenTo x_isCycleGreen x_stillGreen x_rowMany x_fitMany x_fitRules x_fitGreen x_undoable x_newest x_seeded x_qCoded x_qWaits x_qOpened x_qBase x_qPiled x_qAnswer x_qIsNew x_octets)), ((rm 41), .inl (cy 0, 4, .inl g_many))] := hD
  obtain ⟨h3, h4, h5⟩ := hw
  refine lv_if_ne (tgt := 10) hx hb dX10_walker_5 (by decide) (fun c6 => ?_) (fun c6 => ?_)
  · have h7 : ib r1 1 1 := ib_w 1 1 (ib_ne_lo 0 h3 (by decide) c6) (by decide)
    have h8 : ib (g_many 3) 1 12 := ib_w 1 12 (ib_two hg_many_3 (h4 (ib_nz h7 (by decide)))) (by decide)
    have h9 : ib (g_bar 4) 10 120 := ib_w 10 120 (ib_two hg_bar_4 (hc_m3 (ib_nz h8 (by decide)))) (by decide)
    have h10 : ib p0 0 11 := ib_w 0 11 (ib_two (ib_any p0) (h5 (ib_nz h7 (by decide)))) (by decide)
    refine lv_aload_n hx hb dX10_walker_10 rfl (lv_at hl 0 rfl) ?_
    refine k_jv hP hD hS hA [18, 0, 1, 2, 3, 4, 5, 6, 7, 8, 9, 10, 11, 12, 13, 14, 15, 16, 19, 17] [] (wr := []) rfl rfl (by decide) (by decide) (by decide) 0 0 (Nat.le_of_ble_eq_true rfl) (Nat.le_of_ble_eq_true rfl) (fun hPc hDc => k_runV (As := []) (rest := []) C0 hZ hS hA (s_X10_dayNow l dC dI cy sq a_this rm x_taped x_at x_end x_ended x_bad x_badPlace x_fault x_faultPlace x_namePlace x_awayTold x_away x_coded x_statements x_isCrossing x_textKind x_askSecond x_redMany x_isOpen x_lastGreen x_greenTo x_isCycleGreen x_stillGreen x_rowMany x_fitMany x_fitRules x_fitGreen x_undoable x_newest x_seeded x_qCoded x_qWaits x_qOpened x_qBase x_qPiled x_qAnswer x_qIsNew x_octets g_many g_bar g_kinds g_walkers g_codeFrom g_codeEnd g_codes g_now g_isCar g_gaps g_isGreen g_isHere g_crosses g_waits g_goes g_harms g_presses g_crossedIn g_qPile (ib_w 0 1700 hx_qPiled (by decide)) (ib_w 0 12 h8 (by decide)) (ib_w 10 120 h9 (by decide)) hpg_walkers (ib_w (-1) 1600 hg_codeFrom_3 (by decide)) (ib_w (-1) 1600 hg_codeFrom_4 (by decide)) (ib_w 0 1600 hg_codeEnd_3 (by decide)) (ib_w 0 1600 hg_codeEnd_4 (by decide)) hg_gaps hG0 hG1) mV_X10_534 hPc hDc rfl rfl rfl hl rfl rfl (Nat.le_of_ble_eq_true rfl) ⟨(Nat.le_of_ble_eq_true rfl), (Nat.le_of_ble_eq_true rfl)⟩ ⟨(Nat.le_of_ble_eq_true rfl), (Nat.le_of_ble_eq_true rfl)⟩ dX10_walker_11) (fun u12 H locs hw hP hD hS => ?_)
    obtain ⟨v13, v14, v15, v16, v17, v18, v19, v20, v21, f22, f23, f24, f25, f26, f27, f28, f29, f30, f31, f32⟩ := u12
    try dsimp only at hP hD hw
    have hP : va_P (dC, dI) vwCl [(a_this, .inr (10, mfs rm x_taped x_at x_end x_ended x_bad x_badPlace x_fault x_faultPlace x_namePlace x_awayTold x_away x_coded x_statements x_isCrossing v13 v14 v15 v16 v17 v18 v19 v20 x_rowMany x_fitMany x_fitRules x_fitGreen x_undoable x_newest x_seeded x_qCoded x_qWaits x_qOpened x_qBase v21 x_qAnswer x_qIsNew x_octets)), ((rm 49), .inl (cy 0, 6, .inl g_codeFrom)), ((rm 50), .inl (cy 0, 6, .inl g_codeEnd)), ((rm 116), .inl (cy 1, 1700, .inr (.inl f22))), ((rm 51), .inl (cy 0, 3200, .inl g_codes)), ((rm 46), .inl (cy 0, 48, .inl g_walkers)), ((rm 56), .inl (cy 0, 9, .inl g_now)), ((rm 43), .inl (cy 0, 8, .inl g_bar)), ((rm 65), .inl (cy 0, 12, .inl f23)), ((rm 44), .inl (cy 0, 24, .inl g_kinds)), ((rm 61), .inl (cy 0, 300, .inl f24)), ((rm 66), .inl (cy 3, 12, .inl f25)), ((rm 67), .inl (cy 3, 12, .inl f26)), ((rm 60), .inl (cy 3, 320, .inl f27)), ((rm 63), .inl (cy 3, 12, .inl f28)), ((rm 64), .inl (cy 0, 12, .inl f29)), ((rm 68), .inl (cy 3, 12, .inl f30)), ((rm 69), .inl (cy 3, 300, .inl f31)), ((rm 41), .inl (cy 0, 4, .inl g_many)), ((rm 62), .inl (cy 3, 300, .inl f32))] H := hP
    have hD : va_D A [(a_this, .inr (10, mfs rm x_taped x_at x_end x_ended x_bad x_badPlace x_fault x_faultPlace x_namePlace x_awayTold x_away x_coded x_statements x_isCrossing v13 v14 v15 v16 v17 v18 v19 v20 x_rowMany x_fitMany x_fitRules x_fitGreen x_undoable x_newest x_seeded x_qCoded x_qWaits x_qOpened x_qBase v21 x_qAnswer x_qIsNew x_octets)), ((rm 49), .inl (cy 0, 6, .inl g_codeFrom)), ((rm 50), .inl (cy 0, 6, .inl g_codeEnd)), ((rm 116), .inl (cy 1, 1700, .inr (.inl f22))), ((rm 51), .inl (cy 0, 3200, .inl g_codes)), ((rm 46), .inl (cy 0, 48, .inl g_walkers)), ((rm 56), .inl (cy 0, 9, .inl g_now)), ((rm 43), .inl (cy 0, 8, .inl g_bar)), ((rm 65), .inl (cy 0, 12, .inl f23)), ((rm 44), .inl (cy 0, 24, .inl g_kinds)), ((rm 61), .inl (cy 0, 300, .inl f24)), ((rm 66), .inl (cy 3, 12, .inl f25)), ((rm 67), .inl (cy 3, 12, .inl f26)), ((rm 60), .inl (cy 3, 320, .inl f27)), ((rm 63), .inl (cy 3, 12, .inl f28)), ((rm 64), .inl (cy 0, 12, .inl f29)), ((rm 68), .inl (cy 3, 12, .inl f30)), ((rm 69), .inl (cy 3, 300, .inl f31)), ((rm 41), .inl (cy 0, 4, .inl g_many)), ((rm 62), .inl (cy 3, 300, .inl f32))] := hD
    obtain ⟨h33, h34, h35, h36⟩ := hw
    refine lv_iload_n hx hb dX10_walker_14 rfl (lv_at hl 2 rfl) ?_
    rcases Decidable.em (p1 = 0) with s37_0 | s37_0
    · skip
      have h38 : ib p1 0 0 := by rw [s37_0]; exact ib_c 0 0 0 (by decide)
      refine lv_tableIn (off := 41) (tgt := 56) hx hb dX10_walker_15 (by rw [s37_0]; decide) (by rw [s37_0]; decide) (by rw [s37_0]; decide) (by decide) ?_
      refine lv_aload_n hx hb dX10_walker_56 rfl (lv_at hl 0 rfl) ?_
      refine lv_iload_n hx hb dX10_walker_57 rfl (lv_at hl 1 rfl) ?_
      refine k_ji hP hD hS hA [0, 5] [1, 2, 3, 4, 6, 7, 8, 9, 10, 11, 12, 13, 14, 15, 16, 17, 18, 19] (wr := [((rm 49), .inl (cy 0, 6, .inl g_codeFrom)), ((rm 50), .inl (cy 0, 6, .inl g_codeEnd)), ((rm 116), .inl (cy 1, 1700, .inr (.inl f22))), ((rm 51), .inl (cy 0, 3200, .inl g_codes)), ((rm 56), .inl (cy 0, 9, .inl g_now)), ((rm 43), .inl (cy 0, 8, .inl g_bar)), ((rm 65), .inl (cy 0, 12, .inl f23)), ((rm 44), .inl (cy 0, 24, .inl g_kinds)), ((rm 61), .inl (cy 0, 300, .inl f24)), ((rm 66), .inl (cy 3, 12, .inl f25)), ((rm 67), .inl (cy 3, 12, .inl f26)), ((rm 60), .inl (cy 3, 320, .inl f27)), ((rm 63), .inl (cy 3, 12, .inl f28)), ((rm 64), .inl (cy 0, 12, .inl f29)), ((rm 68), .inl (cy 3, 12, .inl f30)), ((rm 69), .inl (cy 3, 300, .inl f31)), ((rm 41), .inl (cy 0, 4, .inl g_many)), ((rm 62), .inl (cy 3, 300, .inl f32))]) rfl rfl (by decide) (by decide) (by decide) 0 0 (Nat.le_of_ble_eq_true rfl) (Nat.le_of_ble_eq_true rfl) (fun hPc hDc => k_runV (As := [.int p0]) (rest := []) C0 hZ hS hA (s_X10_kindOf l dC dI cy sq a_this rm x_taped x_at x_end x_ended x_bad x_badPlace x_fault x_faultPlace x_namePlace x_awayTold x_away x_coded x_statements x_isCrossing v13 v14 v15 v16 v17 v18 v19 v20 x_rowMany x_fitMany x_fitRules x_fitGreen x_undoable x_newest x_seeded x_qCoded x_qWaits x_qOpened x_qBase v21 x_qAnswer x_qIsNew x_octets g_walkers p0 hpg_walkers (ib_w 0 11 h10 (by decide))) mV_X10_436 hPc hDc rfl rfl rfl hl rfl rfl (Nat.le_of_ble_eq_true rfl) ⟨(Nat.le_of_ble_eq_true rfl), (Nat.le_of_ble_eq_true rfl)⟩ ⟨(Nat.le_of_ble_eq_true rfl), (Nat.le_of_ble_eq_true rfl)⟩ dX10_walker_58) (fun r39 u40 H locs hw hP hD hS => ?_)
      try dsimp only at hP hD hw
      have hP : va_P (dC, dI) vwCl [((rm 49), .inl (cy 0, 6, .inl g_codeFrom)), ((rm 50), .inl (cy 0, 6, .inl g_codeEnd)), ((rm 116), .inl (cy 1, 1700, .inr (.inl f22))), ((rm 51), .inl (cy 0, 3200, .inl g_codes)), ((rm 56), .inl (cy 0, 9, .inl g_now)), ((rm 43), .inl (cy 0, 8, .inl g_bar)), ((rm 65), .inl (cy 0, 12, .inl f23)), ((rm 44), .inl (cy 0, 24, .inl g_kinds)), ((rm 61), .inl (cy 0, 300, .inl f24)), ((rm 66), .inl (cy 3, 12, .inl f25)), ((rm 67), .inl (cy 3, 12, .inl f26)), ((rm 60), .inl (cy 3, 320, .inl f27)), ((rm 63), .inl (cy 3, 12, .inl f28)), ((rm 64), .inl (cy 0, 12, .inl f29)), ((rm 68), .inl (cy 3, 12, .inl f30)), ((rm 69), .inl (cy 3, 300, .inl f31)), ((rm 41), .inl (cy 0, 4, .inl g_many)), ((rm 62), .inl (cy 3, 300, .inl f32)), (a_this, .inr (10, mfs rm x_taped x_at x_end x_ended x_bad x_badPlace x_fault x_faultPlace x_namePlace x_awayTold x_away x_coded x_statements x_isCrossing v13 v14 v15 v16 v17 v18 v19 v20 x_rowMany x_fitMany x_fitRules x_fitGreen x_undoable x_newest x_seeded x_qCoded x_qWaits x_qOpened x_qBase v21 x_qAnswer x_qIsNew x_octets)), ((rm 46), .inl (cy 0, 48, .inl g_walkers))] H := hP
      have hD : va_D A [((rm 49), .inl (cy 0, 6, .inl g_codeFrom)), ((rm 50), .inl (cy 0, 6, .inl g_codeEnd)), ((rm 116), .inl (cy 1, 1700, .inr (.inl f22))), ((rm 51), .inl (cy 0, 3200, .inl g_codes)), ((rm 56), .inl (cy 0, 9, .inl g_now)), ((rm 43), .inl (cy 0, 8, .inl g_bar)), ((rm 65), .inl (cy 0, 12, .inl f23)), ((rm 44), .inl (cy 0, 24, .inl g_kinds)), ((rm 61), .inl (cy 0, 300, .inl f24)), ((rm 66), .inl (cy 3, 12, .inl f25)), ((rm 67), .inl (cy 3, 12, .inl f26)), ((rm 60), .inl (cy 3, 320, .inl f27)), ((rm 63), .inl (cy 3, 12, .inl f28)), ((rm 64), .inl (cy 0, 12, .inl f29)), ((rm 68), .inl (cy 3, 12, .inl f30)), ((rm 69), .inl (cy 3, 300, .inl f31)), ((rm 41), .inl (cy 0, 4, .inl g_many)), ((rm 62), .inl (cy 3, 300, .inl f32)), (a_this, .inr (10, mfs rm x_taped x_at x_end x_ended x_bad x_badPlace x_fault x_faultPlace x_namePlace x_awayTold x_away x_coded x_statements x_isCrossing v13 v14 v15 v16 v17 v18 v19 v20 x_rowMany x_fitMany x_fitRules x_fitGreen x_undoable x_newest x_seeded x_qCoded x_qWaits x_qOpened x_qBase v21 x_qAnswer x_qIsNew x_octets)), ((rm 46), .inl (cy 0, 48, .inl g_walkers))] := hD
      have h41 := hw
      subst hQ; exact k_iret hx hb hr hlk rfl ((v13, v14, v15, v16, v17, v18, v19, v20, v21, f22, f23, f24, f25, f26, f27, f28, f29, f30, f31, f32)) hS ⟨ib_w 0 1 h33 (by decide), ib_w 0 1 h34 (by decide), ib_w 0 1700 h35 (by decide), h36⟩ (hP.sub [18, 16, 0, 1, 2, 3, 19, 4, 5, 6, 7, 8, 9, 10, 11, 12, 13, 14, 15, 17] rfl) (hD.sub [18, 16, 0, 1, 2, 3, 19, 4, 5, 6, 7, 8, 9, 10, 11, 12, 13, 14, 15, 17] (by decide) rfl) (Nat.le_of_ble_eq_true rfl) (Nat.le_of_ble_eq_true rfl) dX10_walker_61
    rcases Decidable.em (p1 = 1) with s37_1 | s37_1
    · skip
      have h42 : ib p1 1 1 := by rw [s37_1]; exact ib_c 1 1 1 (by decide)
      refine lv_tableIn (off := 47) (tgt := 62) hx hb dX10_walker_15 (by rw [s37_1]; decide) (by rw [s37_1]; decide) (by rw [s37_1]; decide) (by decide) ?_
      refine lv_aload_n hx hb dX10_walker_62 rfl (lv_at hl 0 rfl) ?_
      refine lv_iload_n hx hb dX10_walker_63 rfl (lv_at hl 1 rfl) ?_
      refine k_ji hP hD hS hA [0, 5] [1, 2, 3, 4, 6, 7, 8, 9, 10, 11, 12, 13, 14, 15, 16, 17, 18, 19] (wr := [((rm 49), .inl (cy 0, 6, .inl g_codeFrom)), ((rm 50), .inl (cy 0, 6, .inl g_codeEnd)), ((rm 116), .inl (cy 1, 1700, .inr (.inl f22))), ((rm 51), .inl (cy 0, 3200, .inl g_codes)), ((rm 56), .inl (cy 0, 9, .inl g_now)), ((rm 43), .inl (cy 0, 8, .inl g_bar)), ((rm 65), .inl (cy 0, 12, .inl f23)), ((rm 44), .inl (cy 0, 24, .inl g_kinds)), ((rm 61), .inl (cy 0, 300, .inl f24)), ((rm 66), .inl (cy 3, 12, .inl f25)), ((rm 67), .inl (cy 3, 12, .inl f26)), ((rm 60), .inl (cy 3, 320, .inl f27)), ((rm 63), .inl (cy 3, 12, .inl f28)), ((rm 64), .inl (cy 0, 12, .inl f29)), ((rm 68), .inl (cy 3, 12, .inl f30)), ((rm 69), .inl (cy 3, 300, .inl f31)), ((rm 41), .inl (cy 0, 4, .inl g_many)), ((rm 62), .inl (cy 3, 300, .inl f32))]) rfl rfl (by decide) (by decide) (by decide) 0 0 (Nat.le_of_ble_eq_true rfl) (Nat.le_of_ble_eq_true rfl) (fun hPc hDc => k_runV (As := [.int p0]) (rest := []) C0 hZ hS hA (s_X10_secondOf l dC dI cy sq a_this rm x_taped x_at x_end x_ended x_bad x_badPlace x_fault x_faultPlace x_namePlace x_awayTold x_away x_coded x_statements x_isCrossing v13 v14 v15 v16 v17 v18 v19 v20 x_rowMany x_fitMany x_fitRules x_fitGreen x_undoable x_newest x_seeded x_qCoded x_qWaits x_qOpened x_qBase v21 x_qAnswer x_qIsNew x_octets g_walkers p0 hpg_walkers (ib_w 0 11 h10 (by decide))) mV_X10_460 hPc hDc rfl rfl rfl hl rfl rfl (Nat.le_of_ble_eq_true rfl) ⟨(Nat.le_of_ble_eq_true rfl), (Nat.le_of_ble_eq_true rfl)⟩ ⟨(Nat.le_of_ble_eq_true rfl), (Nat.le_of_ble_eq_true rfl)⟩ dX10_walker_64) (fun r43 u44 H locs hw hP hD hS => ?_)
      try dsimp only at hP hD hw
      have hP : va_P (dC, dI) vwCl [((rm 49), .inl (cy 0, 6, .inl g_codeFrom)), ((rm 50), .inl (cy 0, 6, .inl g_codeEnd)), ((rm 116), .inl (cy 1, 1700, .inr (.inl f22))), ((rm 51), .inl (cy 0, 3200, .inl g_codes)), ((rm 56), .inl (cy 0, 9, .inl g_now)), ((rm 43), .inl (cy 0, 8, .inl g_bar)), ((rm 65), .inl (cy 0, 12, .inl f23)), ((rm 44), .inl (cy 0, 24, .inl g_kinds)), ((rm 61), .inl (cy 0, 300, .inl f24)), ((rm 66), .inl (cy 3, 12, .inl f25)), ((rm 67), .inl (cy 3, 12, .inl f26)), ((rm 60), .inl (cy 3, 320, .inl f27)), ((rm 63), .inl (cy 3, 12, .inl f28)), ((rm 64), .inl (cy 0, 12, .inl f29)), ((rm 68), .inl (cy 3, 12, .inl f30)), ((rm 69), .inl (cy 3, 300, .inl f31)), ((rm 41), .inl (cy 0, 4, .inl g_many)), ((rm 62), .inl (cy 3, 300, .inl f32)), (a_this, .inr (10, mfs rm x_taped x_at x_end x_ended x_bad x_badPlace x_fault x_faultPlace x_namePlace x_awayTold x_away x_coded x_statements x_isCrossing v13 v14 v15 v16 v17 v18 v19 v20 x_rowMany x_fitMany x_fitRules x_fitGreen x_undoable x_newest x_seeded x_qCoded x_qWaits x_qOpened x_qBase v21 x_qAnswer x_qIsNew x_octets)), ((rm 46), .inl (cy 0, 48, .inl g_walkers))] H := hP
      have hD : va_D A [((rm 49), .inl (cy 0, 6, .inl g_codeFrom)), ((rm 50), .inl (cy 0, 6, .inl g_codeEnd)), ((rm 116), .inl (cy 1, 1700, .inr (.inl f22))), ((rm 51), .inl (cy 0, 3200, .inl g_codes)), ((rm 56), .inl (cy 0, 9, .inl g_now)), ((rm 43), .inl (cy 0, 8, .inl g_bar)), ((rm 65), .inl (cy 0, 12, .inl f23)), ((rm 44), .inl (cy 0, 24, .inl g_kinds)), ((rm 61), .inl (cy 0, 300, .inl f24)), ((rm 66), .inl (cy 3, 12, .inl f25)), ((rm 67), .inl (cy 3, 12, .inl f26)), ((rm 60), .inl (cy 3, 320, .inl f27)), ((rm 63), .inl (cy 3, 12, .inl f28)), ((rm 64), .inl (cy 0, 12, .inl f29)), ((rm 68), .inl (cy 3, 12, .inl f30)), ((rm 69), .inl (cy 3, 300, .inl f31)), ((rm 41), .inl (cy 0, 4, .inl g_many)), ((rm 62), .inl (cy 3, 300, .inl f32)), (a_this, .inr (10, mfs rm x_taped x_at x_end x_ended x_bad x_badPlace x_fault x_faultPlace x_namePlace x_awayTold x_away x_coded x_statements x_isCrossing v13 v14 v15 v16 v17 v18 v19 v20 x_rowMany x_fitMany x_fitRules x_fitGreen x_undoable x_newest x_seeded x_qCoded x_qWaits x_qOpened x_qBase v21 x_qAnswer x_qIsNew x_octets)), ((rm 46), .inl (cy 0, 48, .inl g_walkers))] := hD
      subst hQ; exact k_iret hx hb hr hlk rfl ((v13, v14, v15, v16, v17, v18, v19, v20, v21, f22, f23, f24, f25, f26, f27, f28, f29, f30, f31, f32)) hS ⟨ib_w 0 1 h33 (by decide), ib_w 0 1 h34 (by decide), ib_w 0 1700 h35 (by decide), h36⟩ (hP.sub [18, 16, 0, 1, 2, 3, 19, 4, 5, 6, 7, 8, 9, 10, 11, 12, 13, 14, 15, 17] rfl) (hD.sub [18, 16, 0, 1, 2, 3, 19, 4, 5, 6, 7, 8, 9, 10, 11, 12, 13, 14, 15, 17] (by decide) rfl) (Nat.le_of_ble_eq_true rfl) (Nat.le_of_ble_eq_true rfl) dX10_walker_67
    rcases Decidable.em (p1 = 2) with s37_2 | s37_2
    · skip
      have h45 : ib p1 2 2 := by rw [s37_2]; exact ib_c 2 2 2 (by decide)
      refine lv_tableIn (off := 53) (tgt := 68) hx hb dX10_walker_15 (by rw [s37_2]; decide) (by rw [s37_2]; decide) (by rw [s37_2]; decide) (by decide) ?_
      refine lv_aload_n hx hb dX10_walker_68 rfl (lv_at hl 0 rfl) ?_
      refine k_get C0 fg_X10_158 hP 0 rfl rfl dX10_walker_69 ?_
      refine lv_iload_n hx hb dX10_walker_72 rfl (lv_at hl 1 rfl) ?_
      refine va_iald hx hb C0.2.2.2.2.2.1 hP 15 0 rfl rfl (ib_in 12 h10 (by decide)) dX10_walker_73 ?_
      refine lv_topi (fun z46 ez46 => ?_)
      subst hQ; exact k_iret hx hb hr hlk rfl ((v13, v14, v15, v16, v17, v18, v19, v20, v21, f22, f23, f24, f25, f26, f27, f28, f29, f30, f31, f32)) hS ⟨ib_w 0 1 h33 (by decide), ib_w 0 1 h34 (by decide), ib_w 0 1700 h35 (by decide), h36⟩ (hP.sub [0, 18, 1, 2, 3, 4, 5, 6, 7, 8, 9, 10, 11, 12, 13, 14, 15, 16, 17, 19] rfl) (hD.sub [0, 18, 1, 2, 3, 4, 5, 6, 7, 8, 9, 10, 11, 12, 13, 14, 15, 16, 17, 19] (by decide) rfl) (Nat.le_of_ble_eq_true rfl) (Nat.le_of_ble_eq_true rfl) dX10_walker_74
    rcases Decidable.em (p1 = 3) with s37_3 | s37_3
    · skip
      have h47 : ib p1 3 3 := by rw [s37_3]; exact ib_c 3 3 3 (by decide)
      refine lv_tableIn (off := 60) (tgt := 75) hx hb dX10_walker_15 (by rw [s37_3]; decide) (by rw [s37_3]; decide) (by rw [s37_3]; decide) (by decide) ?_
      refine lv_aload_n hx hb dX10_walker_75 rfl (lv_at hl 0 rfl) ?_
      refine k_get C0 fg_X10_161 hP 0 rfl rfl dX10_walker_76 ?_
      refine lv_iload_n hx hb dX10_walker_79 rfl (lv_at hl 1 rfl) ?_
      refine va_iald hx hb C0.2.2.2.2.2.1 hP 8 0 rfl rfl (ib_in 12 h10 (by decide)) dX10_walker_80 ?_
      refine lv_topi (fun z48 ez48 => ?_)
      subst hQ; exact k_iret hx hb hr hlk rfl ((v13, v14, v15, v16, v17, v18, v19, v20, v21, f22, f23, f24, f25, f26, f27, f28, f29, f30, f31, f32)) hS ⟨ib_w 0 1 h33 (by decide), ib_w 0 1 h34 (by decide), ib_w 0 1700 h35 (by decide), h36⟩ (hP.sub [0, 18, 1, 2, 3, 4, 5, 6, 7, 8, 9, 10, 11, 12, 13, 14, 15, 16, 17, 19] rfl) (hD.sub [0, 18, 1, 2, 3, 4, 5, 6, 7, 8, 9, 10, 11, 12, 13, 14, 15, 16, 17, 19] (by decide) rfl) (Nat.le_of_ble_eq_true rfl) (Nat.le_of_ble_eq_true rfl) dX10_walker_81
    rcases Decidable.em (p1 = 4) with s37_4 | s37_4
    · skip
      have h49 : ib p1 4 4 := by rw [s37_4]; exact ib_c 4 4 4 (by decide)
      refine lv_tableIn (off := 67) (tgt := 82) hx hb dX10_walker_15 (by rw [s37_4]; decide) (by rw [s37_4]; decide) (by rw [s37_4]; decide) (by decide) ?_
      refine lv_aload_n hx hb dX10_walker_82 rfl (lv_at hl 0 rfl) ?_
      refine k_get C0 fg_X10_164 hP 0 rfl rfl dX10_walker_83 ?_
      refine lv_iload_n hx hb dX10_walker_86 rfl (lv_at hl 1 rfl) ?_
      refine va_zald hx hb C0.2.2.2.2.2.1 hP 11 3 rfl rfl (ib_in 12 h10 (by decide)) dX10_walker_87 ?_
      refine lv_topi (fun z50 ez50 => ?_)
      refine lv_if_eq (tgt := 95) hx hb dX10_walker_88 (by decide) (fun c51 => ?_) (fun c51 => ?_)
      · have h52 := ib_eq (ib_any z50) (ib_c 0 0 0 (by decide)) c51
        have h53 : ib z50 0 0 := ib_w 0 0 h52.1 (by decide)
        refine lv_iconst (v := 0) hx hb dX10_walker_95 (by decide) ?_
        subst hQ; exact k_iret hx hb hr hlk rfl ((v13, v14, v15, v16, v17, v18, v19, v20, v21, f22, f23, f24, f25, f26, f27, f28, f29, f30, f31, f32)) hS ⟨ib_w 0 1 h33 (by decide), ib_w 0 1 h34 (by decide), ib_w 0 1700 h35 (by decide), h36⟩ (hP.sub [0, 18, 1, 2, 3, 4, 5, 6, 7, 8, 9, 10, 11, 12, 13, 14, 15, 16, 17, 19] rfl) (hD.sub [0, 18, 1, 2, 3, 4, 5, 6, 7, 8, 9, 10, 11, 12, 13, 14, 15, 16, 17, 19] (by decide) rfl) (Nat.le_of_ble_eq_true rfl) (Nat.le_of_ble_eq_true rfl) dX10_walker_96
      · skip
        refine lv_iconst (v := 1) hx hb dX10_walker_91 (by decide) ?_
        refine lv_goto (tgt := 96) hx hb dX10_walker_92 (by decide) ?_
        subst hQ; exact k_iret hx hb hr hlk rfl ((v13, v14, v15, v16, v17, v18, v19, v20, v21, f22, f23, f24, f25, f26, f27, f28, f29, f30, f31, f32)) hS ⟨ib_w 0 1 h33 (by decide), ib_w 0 1 h34 (by decide), ib_w 0 1700 h35 (by decide), h36⟩ (hP.sub [0, 18, 1, 2, 3, 4, 5, 6, 7, 8, 9, 10, 11, 12, 13, 14, 15, 16, 17, 19] rfl) (hD.sub [0, 18, 1, 2, 3, 4, 5, 6, 7, 8, 9, 10, 11, 12, 13, 14, 15, 16, 17, 19] (by decide) rfl) (Nat.le_of_ble_eq_true rfl) (Nat.le_of_ble_eq_true rfl) dX10_walker_96
    rcases Decidable.em (p1 = 5) with s37_5 | s37_5
    · skip
      have h54 : ib p1 5 5 := by rw [s37_5]; exact ib_c 5 5 5 (by decide)
      refine lv_tableIn (off := 82) (tgt := 97) hx hb dX10_walker_15 (by rw [s37_5]; decide) (by rw [s37_5]; decide) (by rw [s37_5]; decide) (by decide) ?_
      refine lv_aload_n hx hb dX10_walker_97 rfl (lv_at hl 0 rfl) ?_
      refine k_get C0 fg_X10_167 hP 0 rfl rfl dX10_walker_98 ?_
      refine lv_iload_n hx hb dX10_walker_101 rfl (lv_at hl 1 rfl) ?_
      refine va_zald hx hb C0.2.2.2.2.2.1 hP 12 3 rfl rfl (ib_in 12 h10 (by decide)) dX10_walker_102 ?_
      refine lv_topi (fun z55 ez55 => ?_)
      refine lv_if_eq (tgt := 110) hx hb dX10_walker_103 (by decide) (fun c56 => ?_) (fun c56 => ?_)
      · have h57 := ib_eq (ib_any z55) (ib_c 0 0 0 (by decide)) c56
        have h58 : ib z55 0 0 := ib_w 0 0 h57.1 (by decide)
        refine lv_iconst (v := 0) hx hb dX10_walker_110 (by decide) ?_
        subst hQ; exact k_iret hx hb hr hlk rfl ((v13, v14, v15, v16, v17, v18, v19, v20, v21, f22, f23, f24, f25, f26, f27, f28, f29, f30, f31, f32)) hS ⟨ib_w 0 1 h33 (by decide), ib_w 0 1 h34 (by decide), ib_w 0 1700 h35 (by decide), h36⟩ (hP.sub [0, 18, 1, 2, 3, 4, 5, 6, 7, 8, 9, 10, 11, 12, 13, 14, 15, 16, 17, 19] rfl) (hD.sub [0, 18, 1, 2, 3, 4, 5, 6, 7, 8, 9, 10, 11, 12, 13, 14, 15, 16, 17, 19] (by decide) rfl) (Nat.le_of_ble_eq_true rfl) (Nat.le_of_ble_eq_true rfl) dX10_walker_111
      · skip
        refine lv_iconst (v := 1) hx hb dX10_walker_106 (by decide) ?_
        refine lv_goto (tgt := 111) hx hb dX10_walker_107 (by decide) ?_
        subst hQ; exact k_iret hx hb hr hlk rfl ((v13, v14, v15, v16, v17, v18, v19, v20, v21, f22, f23, f24, f25, f26, f27, f28, f29, f30, f31, f32)) hS ⟨ib_w 0 1 h33 (by decide), ib_w 0 1 h34 (by decide), ib_w 0 1700 h35 (by decide), h36⟩ (hP.sub [0, 18, 1, 2, 3, 4, 5, 6, 7, 8, 9, 10, 11, 12, 13, 14, 15, 16, 17, 19] rfl) (hD.sub [0, 18, 1, 2, 3, 4, 5, 6, 7, 8, 9, 10, 11, 12, 13, 14, 15, 16, 17, 19] (by decide) rfl) (Nat.le_of_ble_eq_true rfl) (Nat.le_of_ble_eq_true rfl) dX10_walker_111
    rcases Decidable.em (p1 = 6) with s37_6 | s37_6
    · skip
      have h59 : ib p1 6 6 := by rw [s37_6]; exact ib_c 6 6 6 (by decide)
      refine lv_tableIn (off := 97) (tgt := 112) hx hb dX10_walker_15 (by rw [s37_6]; decide) (by rw [s37_6]; decide) (by rw [s37_6]; decide) (by decide) ?_
      refine lv_aload_n hx hb dX10_walker_112 rfl (lv_at hl 0 rfl) ?_
      refine k_get C0 fg_X10_170 hP 0 rfl rfl dX10_walker_113 ?_
      refine lv_iload_n hx hb dX10_walker_116 rfl (lv_at hl 1 rfl) ?_
      refine va_zald hx hb C0.2.2.2.2.2.1 hP 16 3 rfl rfl (ib_in 12 h10 (by decide)) dX10_walker_117 ?_
      refine lv_topi (fun z60 ez60 => ?_)
      refine lv_if_eq (tgt := 125) hx hb dX10_walker_118 (by decide) (fun c61 => ?_) (fun c61 => ?_)
      · have h62 := ib_eq (ib_any z60) (ib_c 0 0 0 (by decide)) c61
        have h63 : ib z60 0 0 := ib_w 0 0 h62.1 (by decide)
        refine lv_iconst (v := 0) hx hb dX10_walker_125 (by decide) ?_
        subst hQ; exact k_iret hx hb hr hlk rfl ((v13, v14, v15, v16, v17, v18, v19, v20, v21, f22, f23, f24, f25, f26, f27, f28, f29, f30, f31, f32)) hS ⟨ib_w 0 1 h33 (by decide), ib_w 0 1 h34 (by decide), ib_w 0 1700 h35 (by decide), h36⟩ (hP.sub [0, 18, 1, 2, 3, 4, 5, 6, 7, 8, 9, 10, 11, 12, 13, 14, 15, 16, 17, 19] rfl) (hD.sub [0, 18, 1, 2, 3, 4, 5, 6, 7, 8, 9, 10, 11, 12, 13, 14, 15, 16, 17, 19] (by decide) rfl) (Nat.le_of_ble_eq_true rfl) (Nat.le_of_ble_eq_true rfl) dX10_walker_126
      · skip
        refine lv_iconst (v := 1) hx hb dX10_walker_121 (by decide) ?_
        refine lv_goto (tgt := 126) hx hb dX10_walker_122 (by decide) ?_
        subst hQ; exact k_iret hx hb hr hlk rfl ((v13, v14, v15, v16, v17, v18, v19, v20, v21, f22, f23, f24, f25, f26, f27, f28, f29, f30, f31, f32)) hS ⟨ib_w 0 1 h33 (by decide), ib_w 0 1 h34 (by decide), ib_w 0 1700 h35 (by decide), h36⟩ (hP.sub [0, 18, 1, 2, 3, 4, 5, 6, 7, 8, 9, 10, 11, 12, 13, 14, 15, 16, 17, 19] rfl) (hD.sub [0, 18, 1, 2, 3, 4, 5, 6, 7, 8, 9, 10, 11, 12, 13, 14, 15, 16, 17, 19] (by decide) rfl) (Nat.le_of_ble_eq_true rfl) (Nat.le_of_ble_eq_true rfl) dX10_walker_126
    refine lv_tableOut (tgt := 127) hx hb dX10_walker_15 (by have q0 := ib_nei 0 0 (by decide) s37_0; have q1 := ib_nei 1 1 (by decide) s37_1; have q2 := ib_nei 2 2 (by decide) s37_2; have q3 := ib_nei 3 3 (by decide) s37_3; have q4 := ib_nei 4 4 (by decide) s37_4; have q5 := ib_nei 5 5 (by decide) s37_5; have q6 := ib_nei 6 6 (by decide) s37_6; omega) (by decide) ?_
    refine lv_iconst (v := (-1)) hx hb dX10_walker_127 (by decide) ?_
    subst hQ; exact k_iret hx hb hr hlk rfl ((v13, v14, v15, v16, v17, v18, v19, v20, v21, f22, f23, f24, f25, f26, f27, f28, f29, f30, f31, f32)) hS ⟨ib_w 0 1 h33 (by decide), ib_w 0 1 h34 (by decide), ib_w 0 1700 h35 (by decide), h36⟩ (hP.sub [0, 18, 1, 2, 3, 4, 5, 6, 7, 8, 9, 10, 11, 12, 13, 14, 15, 16, 17, 19] rfl) (hD.sub [0, 18, 1, 2, 3, 4, 5, 6, 7, 8, 9, 10, 11, 12, 13, 14, 15, 16, 17, 19] (by decide) rfl) (Nat.le_of_ble_eq_true rfl) (Nat.le_of_ble_eq_true rfl) dX10_walker_128
  · have h64 := ib_eq h3 (ib_c 0 0 0 (by decide)) c6
    have h65 : ib r1 0 0 := ib_w 0 0 h64.1 (by decide)
    refine lv_iconst (v := (-1)) hx hb dX10_walker_8 (by decide) ?_
    subst hQ; exact k_iret hx hb hr hlk rfl ((x_textKind, x_askSecond, x_redMany, x_isOpen, x_lastGreen, x_greenTo, x_isCycleGreen, x_stillGreen, x_qPiled, g_qPile, g_waits, g_gaps, g_goes, g_harms, g_isCar, g_isHere, g_crosses, g_presses, g_crossedIn, g_isGreen)) hS ⟨ib_w 0 1 hx_isOpen (by decide), ib_w 0 1 hx_isCycleGreen (by decide), ib_w 0 1700 hx_qPiled (by decide), hg_gaps⟩ (hP.sub [18, 19, 0, 1, 2, 3, 4, 5, 6, 7, 8, 9, 10, 11, 12, 13, 14, 15, 16, 17] rfl) (hD.sub [18, 19, 0, 1, 2, 3, 4, 5, 6, 7, 8, 9, 10, 11, 12, 13, 14, 15, 16, 17] (by decide) rfl) (Nat.le_of_ble_eq_true rfl) (Nat.le_of_ble_eq_true rfl) dX10_walker_9
set_option maxHeartbeats 4000000 in
set_option maxRecDepth 100000 in
theorem s_X10_watched (l : Launch) (dC : Nat → ClassId) (dI : Nat → Nat → Nat) (cy : Nat → ClassId) (sq : Nat → Nat) (a_this : Nat) (rm : Nat → Nat) (x_taped : Int32) (x_at : Int32) (x_end : Int32) (x_ended : Int32) (x_bad : Int32) (x_badPlace : Int32) (x_fault : Int32) (x_faultPlace : Int32) (x_namePlace : Int32) (x_awayTold : Int32) (x_away : Int32) (x_coded : Int32) (x_statements : Int32) (x_isCrossing : Int32) (x_textKind : Int32) (x_askSecond : Int32) (x_redMany : Int32) (x_isOpen : Int32) (x_lastGreen : Int32) (x_greenTo : Int32) (x_isCycleGreen : Int32) (x_stillGreen : Int32) (x_rowMany : Int32) (x_fitMany : Int32) (x_fitRules : Int32) (x_fitGreen : Int32) (x_undoable : Int32) (x_newest : Int32) (x_seeded : Int64) (x_qCoded : Int32) (x_qWaits : Int32) (x_qOpened : Int32) (x_qBase : Int32) (x_qPiled : Int32) (x_qAnswer : Int64) (x_qIsNew : Int32) (x_octets : Int32) (g_many : Nat → Int32) (g_bar : Nat → Int32) (g_kinds : Nat → Int32) (g_walkers : Nat → Int32) (g_codeFrom : Nat → Int32) (g_codeEnd : Nat → Int32) (g_codes : Nat → Int32) (g_now : Nat → Int32) (g_isCar : Nat → Int32) (g_gaps : Nat → Int32) (g_isGreen : Nat → Int32) (g_isHere : Nat → Int32) (g_crosses : Nat → Int32) (g_waits : Nat → Int32) (g_goes : Nat → Int32) (g_harms : Nat → Int32) (g_presses : Nat → Int32) (g_crossedIn : Nat → Int32) (g_rows : Nat → Int32) (g_when : Nat → Int32) (g_qPile : Nat → Int64) (p0 : Int32) (hx_isCrossing : ib x_isCrossing 0 1) (hx_isOpen : ib x_isOpen 0 1) (hx_isCycleGreen : ib x_isCycleGreen 0 1) (hx_rowMany : ib x_rowMany 0 16) (hx_fitMany : ib x_fitMany 0 60) (hx_qPiled : ib x_qPiled 0 1700) (hg_many_3 : ib (g_many 3) 0 12) (hg_bar_4 : ib (g_bar 4) 0 120) (hpg_walkers : ip g_walkers 48 2 0 0 5) (hg_codeFrom_3 : ib (g_codeFrom 3) (-1) 1600) (hg_codeFrom_4 : ib (g_codeFrom 4) (-1) 1600) (hg_codeEnd_3 : ib (g_codeEnd 3) 0 1600) (hg_codeEnd_4 : ib (g_codeEnd 4) 0 1600) (hg_gaps : ia g_gaps 300 0 20) (hpg_rows : ip g_rows 32 2 0 0 11) (hG0 : ¬ g_codeFrom 3 = (-1) → okc g_codes 1600 false (g_codeFrom 3) (g_codeEnd 3)) (hG1 : ¬ g_codeFrom 4 = (-1) → okc g_codes 1600 true (g_codeFrom 4) (g_codeEnd 4)) (hc_cr : ¬ x_isCrossing = 0 → ib (g_bar 4) 10 120) : k_Met l yX10_watched cX10_watched 6 (some .int) { frames := 7, cells := 0, slots := 0, locals := 160 } dC dI cy sq [.ref a_this, .int p0] [(a_this, .inr (10, mfs rm x_taped x_at x_end x_ended x_bad x_badPlace x_fault x_faultPlace x_namePlace x_awayTold x_away x_coded x_statements x_isCrossing x_textKind x_askSecond x_redMany x_isOpen x_lastGreen x_greenTo x_isCycleGreen x_stillGreen x_rowMany x_fitMany x_fitRules x_fitGreen x_undoable x_newest x_seeded x_qCoded x_qWaits x_qOpened x_qBase x_qPiled x_qAnswer x_qIsNew x_octets)), ((rm 49), .inl (cy 0, 6, .inl g_codeFrom)), ((rm 50), .inl (cy 0, 6, .inl g_codeEnd)), ((rm 116), .inl (cy 1, 1700, .inr (.inl g_qPile))), ((rm 51), .inl (cy 0, 3200, .inl g_codes)), ((rm 46), .inl (cy 0, 48, .inl g_walkers)), ((rm 56), .inl (cy 0, 9, .inl g_now)), ((rm 43), .inl (cy 0, 8, .inl g_bar)), ((rm 65), .inl (cy 0, 12, .inl g_waits)), ((rm 44), .inl (cy 0, 24, .inl g_kinds)), ((rm 61), .inl (cy 0, 300, .inl g_gaps)), ((rm 66), .inl (cy 3, 12, .inl g_goes)), ((rm 67), .inl (cy 3, 12, .inl g_harms)), ((rm 60), .inl (cy 3, 320, .inl g_isCar)), ((rm 63), .inl (cy 3, 12, .inl g_isHere)), ((rm 64), .inl (cy 0, 12, .inl g_crosses)), ((rm 68), .inl (cy 3, 12, .inl g_presses)), ((rm 69), .inl (cy 3, 300, .inl g_crossedIn)), ((rm 41), .inl (cy 0, 4, .inl g_many)), ((rm 62), .inl (cy 3, 300, .inl g_isGreen)), ((rm 76), .inl (cy 0, 32, .inl g_rows)), ((rm 77), .inl (cy 0, 720, .inl g_when))] (k_Qi dC dI (fun (r : Int32) (u : Int32 × Int32 × Int32 × Int32 × Int32 × Int32 × Int32 × Int32 × Int32 × Int32 × Int32 × Int32 × (Nat → Int64) × (Nat → Int32) × (Nat → Int32) × (Nat → Int32) × (Nat → Int32) × (Nat → Int32) × (Nat → Int32) × (Nat → Int32) × (Nat → Int32) × (Nat → Int32) × (Nat → Int32) × (Nat → Int32)) => match u with | (n0, n1, n2, n3, n4, n5, n6, n7, n8, n9, n10, n11, n12, n13, n14, n15, n16, n17, n18, n19, n20, n21, n22, n23) => ib n3 0 1 ∧ ib n6 0 1 ∧ ib n8 0 60 ∧ ib n11 0 1700 ∧ ia n14 300 0 20 ∧ ib r (-1) 2147483647) (fun u : Int32 × Int32 × Int32 × Int32 × Int32 × Int32 × Int32 × Int32 × Int32 × Int32 × Int32 × Int32 × (Nat → Int64) × (Nat → Int32) × (Nat → Int32) × (Nat → Int32) × (Nat → Int32) × (Nat → Int32) × (Nat → Int32) × (Nat → Int32) × (Nat → Int32) × (Nat → Int32) × (Nat → Int32) × (Nat → Int32) => match u with | (n0, n1, n2, n3, n4, n5, n6, n7, n8, n9, n10, n11, n12, n13, n14, n15, n16, n17, n18, n19, n20, n21, n22, n23) => [(a_this, .inr (10, mfs rm x_taped x_at x_end x_ended x_bad x_badPlace x_fault x_faultPlace x_namePlace x_awayTold x_away x_coded x_statements x_isCrossing n0 n1 n2 n3 n4 n5 n6 n7 x_rowMany n8 n9 n10 x_undoable x_newest x_seeded x_qCoded x_qWaits x_qOpened x_qBase n11 x_qAnswer x_qIsNew x_octets)), ((rm 49), .inl (cy 0, 6, .inl g_codeFrom)), ((rm 50), .inl (cy 0, 6, .inl g_codeEnd)), ((rm 116), .inl (cy 1, 1700, .inr (.inl n12))), ((rm 51), .inl (cy 0, 3200, .inl g_codes)), ((rm 46), .inl (cy 0, 48, .inl g_walkers)), ((rm 56), .inl (cy 0, 9, .inl g_now)), ((rm 43), .inl (cy 0, 8, .inl g_bar)), ((rm 65), .inl (cy 0, 12, .inl n13)), ((rm 44), .inl (cy 0, 24, .inl g_kinds)), ((rm 61), .inl (cy 0, 300, .inl n14)), ((rm 66), .inl (cy 3, 12, .inl n15)), ((rm 67), .inl (cy 3, 12, .inl n16)), ((rm 60), .inl (cy 3, 320, .inl n17)), ((rm 63), .inl (cy 3, 12, .inl n18)), ((rm 64), .inl (cy 0, 12, .inl n19)), ((rm 68), .inl (cy 3, 12, .inl n20)), ((rm 69), .inl (cy 3, 300, .inl n21)), ((rm 41), .inl (cy 0, 4, .inl g_many)), ((rm 62), .inl (cy 3, 300, .inl n22)), ((rm 76), .inl (cy 0, 32, .inl g_rows)), ((rm 77), .inl (cy 0, 720, .inl n23))])) := by
  refine k_ofW2 (by decide +kernel) (Nat.le_of_ble_eq_true rfl) ?_
  intro p e s m below meth c A ls H locs args Q hQ C0 hZ hr hlk hin hP hD hA hS hl
  have C0 : k_cx p s m args c cX10_watched 6 RX10 dC dI cy sq := C0
  have hx := C0.1
  have hb := C0.2.1
  have hl : lv_has ls 6 [(0, .ref a_this), (1, .int p0)] := hl
  have jn80 : ∀ (J80_c0_55 : Int32) (J80_c0_58 : Int32) (J80_c0_59 : Int32) (J80_c0_70 : Int32) (J80_c0_71 : Int32) (J80_c0_72 : Int32) (J80_c0_73 : Int32) (J80_c0_74 : Int32) (J80_c0_78 : Int32) (J80_c0_79 : Int32) (J80_c0_80 : Int32) (J80_c0_117 : Int32) (J80_a3 : Nat → Int64) (J80_a8 : Nat → Int32) (J80_a10 : Nat → Int32) (J80_a11 : Nat → Int32) (J80_a12 : Nat → Int32) (J80_a13 : Nat → Int32) (J80_a14 : Nat → Int32) (J80_a15 : Nat → Int32) (J80_a16 : Nat → Int32) (J80_a17 : Nat → Int32) (J80_a19 : Nat → Int32) (J80_a21 : Nat → Int32) (J80_l2 : Int32) (J80_l3 : Int32) (J80_l4 : Int32) (H : Heap) (locs : List Loc) (ls : Array Slot), ib p0 0 1 → ib x_isCrossing 1 1 → ib J80_c0_70 0 1 → ib J80_c0_73 0 1 → ib J80_c0_78 0 60 → ib J80_c0_80 (-1) 20 → ib J80_c0_117 0 1700 → ib (g_bar 4) 10 120 → ib J80_l2 (-1) 2147483647 → ib J80_l3 0 2147483647 → ib J80_l4 0 12 → ia J80_a10 300 0 20 → va_P (dC, dI) vwCl [(a_this, .inr (10, mfs rm x_taped x_at x_end x_ended x_bad x_badPlace x_fault x_faultPlace x_namePlace x_awayTold x_away x_coded x_statements x_isCrossing J80_c0_55 J80_c0_58 J80_c0_59 J80_c0_70 J80_c0_71 J80_c0_72 J80_c0_73 J80_c0_74 x_rowMany J80_c0_78 J80_c0_79 J80_c0_80 x_undoable x_newest x_seeded x_qCoded x_qWaits x_qOpened x_qBase J80_c0_117 x_qAnswer x_qIsNew x_octets)), ((rm 49), .inl (cy 0, 6, .inl g_codeFrom)), ((rm 50), .inl (cy 0, 6, .inl g_codeEnd)), ((rm 116), .inl (cy 1, 1700, .inr (.inl J80_a3))), ((rm 51), .inl (cy 0, 3200, .inl g_codes)), ((rm 46), .inl (cy 0, 48, .inl g_walkers)), ((rm 56), .inl (cy 0, 9, .inl g_now)), ((rm 43), .inl (cy 0, 8, .inl g_bar)), ((rm 65), .inl (cy 0, 12, .inl J80_a8)), ((rm 44), .inl (cy 0, 24, .inl g_kinds)), ((rm 61), .inl (cy 0, 300, .inl J80_a10)), ((rm 66), .inl (cy 3, 12, .inl J80_a11)), ((rm 67), .inl (cy 3, 12, .inl J80_a12)), ((rm 60), .inl (cy 3, 320, .inl J80_a13)), ((rm 63), .inl (cy 3, 12, .inl J80_a14)), ((rm 64), .inl (cy 0, 12, .inl J80_a15)), ((rm 68), .inl (cy 3, 12, .inl J80_a16)), ((rm 69), .inl (cy 3, 300, .inl J80_a17)), ((rm 41), .inl (cy 0, 4, .inl g_many)), ((rm 62), .inl (cy 3, 300, .inl J80_a19)), ((rm 76), .inl (cy 0, 32, .inl g_rows)), ((rm 77), .inl (cy 0, 720, .inl J80_a21))] H → va_D A [(a_this, .inr (10, mfs rm x_taped x_at x_end x_ended x_bad x_badPlace x_fault x_faultPlace x_namePlace x_awayTold x_away x_coded x_statements x_isCrossing J80_c0_55 J80_c0_58 J80_c0_59 J80_c0_70 J80_c0_71 J80_c0_72 J80_c0_73 J80_c0_74 x_rowMany J80_c0_78 J80_c0_79 J80_c0_80 x_undoable x_newest x_seeded x_qCoded x_qWaits x_qOpened x_qBase J80_c0_117 x_qAnswer x_qIsNew x_octets)), ((rm 49), .inl (cy 0, 6, .inl g_codeFrom)), ((rm 50), .inl (cy 0, 6, .inl g_codeEnd)), ((rm 116), .inl (cy 1, 1700, .inr (.inl J80_a3))), ((rm 51), .inl (cy 0, 3200, .inl g_codes)), ((rm 46), .inl (cy 0, 48, .inl g_walkers)), ((rm 56), .inl (cy 0, 9, .inl g_now)), ((rm 43), .inl (cy 0, 8, .inl g_bar)), ((rm 65), .inl (cy 0, 12, .inl J80_a8)), ((rm 44), .inl (cy 0, 24, .inl g_kinds)), ((rm 61), .inl (cy 0, 300, .inl J80_a10)), ((rm 66), .inl (cy 3, 12, .inl J80_a11)), ((rm 67), .inl (cy 3, 12, .inl J80_a12)), ((rm 60), .inl (cy 3, 320, .inl J80_a13)), ((rm 63), .inl (cy 3, 12, .inl J80_a14)), ((rm 64), .inl (cy 0, 12, .inl J80_a15)), ((rm 68), .inl (cy 3, 12, .inl J80_a16)), ((rm 69), .inl (cy 3, 300, .inl J80_a17)), ((rm 41), .inl (cy 0, 4, .inl g_many)), ((rm 62), .inl (cy 3, 300, .inl J80_a19)), ((rm 76), .inl (cy 0, 32, .inl g_rows)), ((rm 77), .inl (cy 0, 720, .inl J80_a21))] → va_S A s.heap H locs → lv_has ls 6 [(0, .ref a_this), (1, .int p0), (2, .int J80_l2), (3, .int J80_l3), (4, .int J80_l4)] → W p l e { frames := 7, cells := 0, slots := 0, locals := 160 } s m args below meth c H locs 0 0 Q (F0 m 80 ls []) := by
    intro J80_c0_55 J80_c0_58 J80_c0_59 J80_c0_70 J80_c0_71 J80_c0_72 J80_c0_73 J80_c0_74 J80_c0_78 J80_c0_79 J80_c0_80 J80_c0_117 J80_a3 J80_a8 J80_a10 J80_a11 J80_a12 J80_a13 J80_a14 J80_a15 J80_a16 J80_a17 J80_a19 J80_a21 J80_l2 J80_l3 J80_l4 H locs ls hK80_p0 hK80_x_isCrossing hJ80_c0_70 hJ80_c0_73 hJ80_c0_78 hJ80_c0_80 hJ80_c0_117 hJ80_a7_4 hJ80_l2 hJ80_l3 hJ80_l4 hJ80_a10 hP hD hS hl
    refine lv_iload_n hx hb dX10_watched_80 rfl (lv_at hl 2 rfl) ?_
    refine lv_iconst (v := (-1)) hx hb dX10_watched_81 (by decide) ?_
    refine lv_icmp_ne (tgt := 89) hx hb dX10_watched_82 (by decide) (fun c1 => ?_) (fun c1 => ?_)
    · have h2 : ib J80_l2 0 2147483647 := ib_w 0 2147483647 (ib_ne_lo (-1) hJ80_l2 (by decide) c1) (by decide)
      refine lv_iload_n hx hb dX10_watched_89 rfl (lv_at hl 1 rfl) ?_
      refine lv_if_ne (tgt := 97) hx hb dX10_watched_90 (by decide) (fun c3 => ?_) (fun c3 => ?_)
      · have h4 : ib p0 1 1 := ib_w 1 1 (ib_ne_lo 0 hK80_p0 (by decide) c3) (by decide)
        refine lv_iload_n hx hb dX10_watched_97 rfl (lv_at hl 3 rfl) ?_
        subst hQ; exact k_iret hx hb hr hlk rfl ((J80_c0_55, J80_c0_58, J80_c0_59, J80_c0_70, J80_c0_71, J80_c0_72, J80_c0_73, J80_c0_74, J80_c0_78, J80_c0_79, J80_c0_80, J80_c0_117, J80_a3, J80_a8, J80_a10, J80_a11, J80_a12, J80_a13, J80_a14, J80_a15, J80_a16, J80_a17, J80_a19, J80_a21)) hS ⟨ib_w 0 1 hJ80_c0_70 (by decide), ib_w 0 1 hJ80_c0_73 (by decide), ib_w 0 60 hJ80_c0_78 (by decide), ib_w 0 1700 hJ80_c0_117 (by decide), hJ80_a10, ib_w (-1) 2147483647 hJ80_l3 (by decide)⟩ hP hD (Nat.le_of_ble_eq_true rfl) (Nat.le_of_ble_eq_true rfl) dX10_watched_98
      · have h5 := ib_eq hK80_p0 (ib_c 0 0 0 (by decide)) c3
        have h6 : ib p0 0 0 := ib_w 0 0 h5.1 (by decide)
        refine lv_iload_n hx hb dX10_watched_93 rfl (lv_at hl 2 rfl) ?_
        refine lv_goto (tgt := 98) hx hb dX10_watched_94 (by decide) ?_
        subst hQ; exact k_iret hx hb hr hlk rfl ((J80_c0_55, J80_c0_58, J80_c0_59, J80_c0_70, J80_c0_71, J80_c0_72, J80_c0_73, J80_c0_74, J80_c0_78, J80_c0_79, J80_c0_80, J80_c0_117, J80_a3, J80_a8, J80_a10, J80_a11, J80_a12, J80_a13, J80_a14, J80_a15, J80_a16, J80_a17, J80_a19, J80_a21)) hS ⟨ib_w 0 1 hJ80_c0_70 (by decide), ib_w 0 1 hJ80_c0_73 (by decide), ib_w 0 60 hJ80_c0_78 (by decide), ib_w 0 1700 hJ80_c0_117 (by decide), hJ80_a10, ib_w (-1) 2147483647 h2 (by decide)⟩ hP hD (Nat.le_of_ble_eq_true rfl) (Nat.le_of_ble_eq_true rfl) dX10_watched_98
    · have h7 := ib_eq hJ80_l2 (ib_c (-1) (-1) (-1) (by decide)) c1
      have h8 : ib J80_l2 (-1) (-1) := ib_w (-1) (-1) h7.1 (by decide)
      refine lv_iconst (v := (-1)) hx hb dX10_watched_85 (by decide) ?_
      refine lv_goto (tgt := 98) hx hb dX10_watched_86 (by decide) ?_
      subst hQ; exact k_iret hx hb hr hlk rfl ((J80_c0_55, J80_c0_58, J80_c0_59, J80_c0_70, J80_c0_71, J80_c0_72, J80_c0_73, J80_c0_74, J80_c0_78, J80_c0_79, J80_c0_80, J80_c0_117, J80_a3, J80_a8, J80_a10, J80_a11, J80_a12, J80_a13, J80_a14, J80_a15, J80_a16, J80_a17, J80_a19, J80_a21)) hS ⟨ib_w 0 1 hJ80_c0_70 (by decide), ib_w 0 1 hJ80_c0_73 (by decide), ib_w 0 60 hJ80_c0_78 (by decide), ib_w 0 1700 hJ80_c0_117 (by decide), hJ80_a10, ib_w (-1) 2147483647 (ib_c (-1) (-1) (-1) (by decide)) (by decide)⟩ hP hD (Nat.le_of_ble_eq_true rfl) (Nat.le_of_ble_eq_true rfl) dX10_watched_98
  have jn30 : ∀ (n : Nat) (J30_c0_55 : Int32) (J30_c0_58 : Int32) (J30_c0_59 : Int32) (J30_c0_70 : Int32) (J30_c0_71 : Int32) (J30_c0_72 : Int32) (J30_c0_73 : Int32) (J30_c0_74 : Int32) (J30_c0_78 : Int32) (J30_c0_79 : Int32) (J30_c0_80 : Int32) (J30_c0_117 : Int32) (J30_a3 : Nat → Int64) (J30_a8 : Nat → Int32) (J30_a10 : Nat → Int32) (J30_a11 : Nat → Int32) (J30_a12 : Nat → Int32) (J30_a13 : Nat → Int32) (J30_a14 : Nat → Int32) (J30_a15 : Nat → Int32) (J30_a16 : Nat → Int32) (J30_a17 : Nat → Int32) (J30_a19 : Nat → Int32) (J30_a21 : Nat → Int32) (J30_l2 : Int32) (J30_l3 : Int32) (J30_l4 : Int32) (H : Heap) (locs : List Loc) (ls : Array Slot), ib p0 0 1 → ib x_isCrossing 1 1 → ib J30_c0_70 0 1 → ib J30_c0_73 0 1 → ib J30_c0_78 0 60 → ib J30_c0_80 (-1) 20 → ib J30_c0_117 0 1700 → ib (g_bar 4) 10 120 → ib J30_l2 (-1) 2147483647 → ib J30_l3 0 2147483647 → ib J30_l4 0 12 → ia J30_a10 300 0 20 → 13 ≤ J30_l4.toInt + (n : Int) → va_P (dC, dI) vwCl [(a_this, .inr (10, mfs rm x_taped x_at x_end x_ended x_bad x_badPlace x_fault x_faultPlace x_namePlace x_awayTold x_away x_coded x_statements x_isCrossing J30_c0_55 J30_c0_58 J30_c0_59 J30_c0_70 J30_c0_71 J30_c0_72 J30_c0_73 J30_c0_74 x_rowMany J30_c0_78 J30_c0_79 J30_c0_80 x_undoable x_newest x_seeded x_qCoded x_qWaits x_qOpened x_qBase J30_c0_117 x_qAnswer x_qIsNew x_octets)), ((rm 49), .inl (cy 0, 6, .inl g_codeFrom)), ((rm 50), .inl (cy 0, 6, .inl g_codeEnd)), ((rm 116), .inl (cy 1, 1700, .inr (.inl J30_a3))), ((rm 51), .inl (cy 0, 3200, .inl g_codes)), ((rm 46), .inl (cy 0, 48, .inl g_walkers)), ((rm 56), .inl (cy 0, 9, .inl g_now)), ((rm 43), .inl (cy 0, 8, .inl g_bar)), ((rm 65), .inl (cy 0, 12, .inl J30_a8)), ((rm 44), .inl (cy 0, 24, .inl g_kinds)), ((rm 61), .inl (cy 0, 300, .inl J30_a10)), ((rm 66), .inl (cy 3, 12, .inl J30_a11)), ((rm 67), .inl (cy 3, 12, .inl J30_a12)), ((rm 60), .inl (cy 3, 320, .inl J30_a13)), ((rm 63), .inl (cy 3, 12, .inl J30_a14)), ((rm 64), .inl (cy 0, 12, .inl J30_a15)), ((rm 68), .inl (cy 3, 12, .inl J30_a16)), ((rm 69), .inl (cy 3, 300, .inl J30_a17)), ((rm 41), .inl (cy 0, 4, .inl g_many)), ((rm 62), .inl (cy 3, 300, .inl J30_a19)), ((rm 76), .inl (cy 0, 32, .inl g_rows)), ((rm 77), .inl (cy 0, 720, .inl J30_a21))] H → va_D A [(a_this, .inr (10, mfs rm x_taped x_at x_end x_ended x_bad x_badPlace x_fault x_faultPlace x_namePlace x_awayTold x_away x_coded x_statements x_isCrossing J30_c0_55 J30_c0_58 J30_c0_59 J30_c0_70 J30_c0_71 J30_c0_72 J30_c0_73 J30_c0_74 x_rowMany J30_c0_78 J30_c0_79 J30_c0_80 x_undoable x_newest x_seeded x_qCoded x_qWaits x_qOpened x_qBase J30_c0_117 x_qAnswer x_qIsNew x_octets)), ((rm 49), .inl (cy 0, 6, .inl g_codeFrom)), ((rm 50), .inl (cy 0, 6, .inl g_codeEnd)), ((rm 116), .inl (cy 1, 1700, .inr (.inl J30_a3))), ((rm 51), .inl (cy 0, 3200, .inl g_codes)), ((rm 46), .inl (cy 0, 48, .inl g_walkers)), ((rm 56), .inl (cy 0, 9, .inl g_now)), ((rm 43), .inl (cy 0, 8, .inl g_bar)), ((rm 65), .inl (cy 0, 12, .inl J30_a8)), ((rm 44), .inl (cy 0, 24, .inl g_kinds)), ((rm 61), .inl (cy 0, 300, .inl J30_a10)), ((rm 66), .inl (cy 3, 12, .inl J30_a11)), ((rm 67), .inl (cy 3, 12, .inl J30_a12)), ((rm 60), .inl (cy 3, 320, .inl J30_a13)), ((rm 63), .inl (cy 3, 12, .inl J30_a14)), ((rm 64), .inl (cy 0, 12, .inl J30_a15)), ((rm 68), .inl (cy 3, 12, .inl J30_a16)), ((rm 69), .inl (cy 3, 300, .inl J30_a17)), ((rm 41), .inl (cy 0, 4, .inl g_many)), ((rm 62), .inl (cy 3, 300, .inl J30_a19)), ((rm 76), .inl (cy 0, 32, .inl g_rows)), ((rm 77), .inl (cy 0, 720, .inl J30_a21))] → va_S A s.heap H locs → lv_has ls 6 [(0, .ref a_this), (1, .int p0), (2, .int J30_l2), (3, .int J30_l3), (4, .int J30_l4)] → W p l e { frames := 7, cells := 0, slots := 0, locals := 160 } s m args below meth c H locs 0 0 Q (F0 m 30 ls []) := by
    intro n
    induction n with
    | zero =>
      intro J30_c0_55 J30_c0_58 J30_c0_59 J30_c0_70 J30_c0_71 J30_c0_72 J30_c0_73 J30_c0_74 J30_c0_78 J30_c0_79 J30_c0_80 J30_c0_117 J30_a3 J30_a8 J30_a10 J30_a11 J30_a12 J30_a13 J30_a14 J30_a15 J30_a16 J30_a17 J30_a19 J30_a21 J30_l2 J30_l3 J30_l4 H locs ls hK30_p0 hK30_x_isCrossing hJ30_c0_70 hJ30_c0_73 hJ30_c0_78 hJ30_c0_80 hJ30_c0_117 hJ30_a7_4 hJ30_l2 hJ30_l3 hJ30_l4 hJ30_a10 hm
      exact absurd hm (by have := hJ30_l4; unfold ib at this; omega)
    | succ n ih =>
      intro J30_c0_55 J30_c0_58 J30_c0_59 J30_c0_70 J30_c0_71 J30_c0_72 J30_c0_73 J30_c0_74 J30_c0_78 J30_c0_79 J30_c0_80 J30_c0_117 J30_a3 J30_a8 J30_a10 J30_a11 J30_a12 J30_a13 J30_a14 J30_a15 J30_a16 J30_a17 J30_a19 J30_a21 J30_l2 J30_l3 J30_l4 H locs ls hK30_p0 hK30_x_isCrossing hJ30_c0_70 hJ30_c0_73 hJ30_c0_78 hJ30_c0_80 hJ30_c0_117 hJ30_a7_4 hJ30_l2 hJ30_l3 hJ30_l4 hJ30_a10 hm30 hP hD hS hl
      have ih30 := ih
      have jn74 : ∀ (J74_l5 : Int32) (J74_l2 : Int32) (J74_l3 : Int32) (H : Heap) (locs : List Loc) (ls : Array Slot), ib p0 0 1 → ib J30_l4 0 11 → ib J74_l5 0 2147483647 → ib x_isCrossing 1 1 → ib J30_c0_70 0 1 → ib J30_c0_73 0 1 → ib J30_c0_78 1 60 → ib J30_c0_80 (-1) 20 → ib J30_c0_117 0 1700 → ib (g_bar 4) 10 120 → ib (g_many 3) 1 12 → ib J74_l2 0 2147483647 → ib J74_l3 0 2147483647 → va_P (dC, dI) vwCl [(a_this, .inr (10, mfs rm x_taped x_at x_end x_ended x_bad x_badPlace x_fault x_faultPlace x_namePlace x_awayTold x_away x_coded x_statements x_isCrossing J30_c0_55 J30_c0_58 J30_c0_59 J30_c0_70 J30_c0_71 J30_c0_72 J30_c0_73 J30_c0_74 x_rowMany J30_c0_78 J30_c0_79 J30_c0_80 x_undoable x_newest x_seeded x_qCoded x_qWaits x_qOpened x_qBase J30_c0_117 x_qAnswer x_qIsNew x_octets)), ((rm 49), .inl (cy 0, 6, .inl g_codeFrom)), ((rm 50), .inl (cy 0, 6, .inl g_codeEnd)), ((rm 116), .inl (cy 1, 1700, .inr (.inl J30_a3))), ((rm 51), .inl (cy 0, 3200, .inl g_codes)), ((rm 46), .inl (cy 0, 48, .inl g_walkers)), ((rm 56), .inl (cy 0, 9, .inl g_now)), ((rm 43), .inl (cy 0, 8, .inl g_bar)), ((rm 65), .inl (cy 0, 12, .inl J30_a8)), ((rm 44), .inl (cy 0, 24, .inl g_kinds)), ((rm 61), .inl (cy 0, 300, .inl J30_a10)), ((rm 66), .inl (cy 3, 12, .inl J30_a11)), ((rm 67), .inl (cy 3, 12, .inl J30_a12)), ((rm 60), .inl (cy 3, 320, .inl J30_a13)), ((rm 63), .inl (cy 3, 12, .inl J30_a14)), ((rm 64), .inl (cy 0, 12, .inl J30_a15)), ((rm 68), .inl (cy 3, 12, .inl J30_a16)), ((rm 69), .inl (cy 3, 300, .inl J30_a17)), ((rm 41), .inl (cy 0, 4, .inl g_many)), ((rm 62), .inl (cy 3, 300, .inl J30_a19)), ((rm 76), .inl (cy 0, 32, .inl g_rows)), ((rm 77), .inl (cy 0, 720, .inl J30_a21))] H → va_D A [(a_this, .inr (10, mfs rm x_taped x_at x_end x_ended x_bad x_badPlace x_fault x_faultPlace x_namePlace x_awayTold x_away x_coded x_statements x_isCrossing J30_c0_55 J30_c0_58 J30_c0_59 J30_c0_70 J30_c0_71 J30_c0_72 J30_c0_73 J30_c0_74 x_rowMany J30_c0_78 J30_c0_79 J30_c0_80 x_undoable x_newest x_seeded x_qCoded x_qWaits x_qOpened x_qBase J30_c0_117 x_qAnswer x_qIsNew x_octets)), ((rm 49), .inl (cy 0, 6, .inl g_codeFrom)), ((rm 50), .inl (cy 0, 6, .inl g_codeEnd)), ((rm 116), .inl (cy 1, 1700, .inr (.inl J30_a3))), ((rm 51), .inl (cy 0, 3200, .inl g_codes)), ((rm 46), .inl (cy 0, 48, .inl g_walkers)), ((rm 56), .inl (cy 0, 9, .inl g_now)), ((rm 43), .inl (cy 0, 8, .inl g_bar)), ((rm 65), .inl (cy 0, 12, .inl J30_a8)), ((rm 44), .inl (cy 0, 24, .inl g_kinds)), ((rm 61), .inl (cy 0, 300, .inl J30_a10)), ((rm 66), .inl (cy 3, 12, .inl J30_a11)), ((rm 67), .inl (cy 3, 12, .inl J30_a12)), ((rm 60), .inl (cy 3, 320, .inl J30_a13)), ((rm 63), .inl (cy 3, 12, .inl J30_a14)), ((rm 64), .inl (cy 0, 12, .inl J30_a15)), ((rm 68), .inl (cy 3, 12, .inl J30_a16)), ((rm 69), .inl (cy 3, 300, .inl J30_a17)), ((rm 41), .inl (cy 0, 4, .inl g_many)), ((rm 62), .inl (cy 3, 300, .inl J30_a19)), ((rm 76), .inl (cy 0, 32, .inl g_rows)), ((rm 77), .inl (cy 0, 720, .inl J30_a21))] → va_S A s.heap H locs → lv_has ls 6 [(0, .ref a_this), (1, .int p0), (2, .int J74_l2), (3, .int J74_l3), (4, .int J30_l4), (5, .int J74_l5)] → W p l e { frames := 7, cells := 0, slots := 0, locals := 160 } s m args below meth c H locs 0 0 Q (F0 m 74 ls []) := by
        intro J74_l5 J74_l2 J74_l3 H locs ls hK74_p0 hK74_J30_l4 hJ74_l5 hK74_x_isCrossing hK74_J30_c0_70 hK74_J30_c0_73 hK74_J30_c0_78 hK74_J30_c0_80 hK74_J30_c0_117 hJ74_a7_4 hJ74_a18_3 hJ74_l2 hJ74_l3 hP hD hS hl
        obtain ⟨z9, ez9⟩ : ∃ y : Int32, y = J30_l4 + 1 := ⟨_, rfl⟩
        refine lv_iinc (v := z9) (lv' := [(4, .int z9), (0, .ref a_this), (1, .int p0), (2, .int J74_l2), (3, .int J74_l3), (5, .int J74_l5)]) hx hb dX10_watched_74 hl (k := 4) rfl (by rw [ez9]; rfl) (by decide) rfl (fun ls hl => ?_)
        have h10 := ib_add hK74_J30_l4 (ib_c 1 1 1 (by decide)) (by decide)
        rw [← ez9] at h10
        have h11 : ib z9 1 12 := ib_w 1 12 h10.1 (by decide)
        refine lv_goto (tgt := 30) hx hb dX10_watched_77 (by decide) ?_
        exact ih30 J30_c0_55 J30_c0_58 J30_c0_59 J30_c0_70 J30_c0_71 J30_c0_72 J30_c0_73 J30_c0_74 J30_c0_78 J30_c0_79 J30_c0_80 J30_c0_117 J30_a3 J30_a8 J30_a10 J30_a11 J30_a12 J30_a13 J30_a14 J30_a15 J30_a16 J30_a17 J30_a19 J30_a21 J74_l2 J74_l3 z9 H locs ls (ib_w 0 1 hK74_p0 (by decide)) (ib_w 1 1 hK74_x_isCrossing (by decide)) (ib_w 0 1 hK74_J30_c0_70 (by decide)) (ib_w 0 1 hK74_J30_c0_73 (by decide)) (ib_w 0 60 hK74_J30_c0_78 (by decide)) (ib_w (-1) 20 hK74_J30_c0_80 (by decide)) (ib_w 0 1700 hK74_J30_c0_117 (by decide)) (ib_w 10 120 hJ74_a7_4 (by decide)) (ib_w (-1) 2147483647 hJ74_l2 (by decide)) (ib_w 0 2147483647 hJ74_l3 (by decide)) (ib_w 0 12 h11 (by decide)) hJ30_a10 (by have := h10.2; have : (1 : Int32).toInt = 1 := (by decide); omega) hP hD hS (lv_sub hl [1, 2, 3, 4, 0] rfl)
      have jn68 : ∀ (J68_l5 : Int32) (H : Heap) (locs : List Loc) (ls : Array Slot), ib p0 0 1 → ib J30_l2 (-1) 2147483647 → ib J30_l3 0 2147483647 → ib J30_l4 0 11 → ib J68_l5 0 2147483647 → ib x_isCrossing 1 1 → ib J30_c0_70 0 1 → ib J30_c0_73 0 1 → ib J30_c0_78 1 60 → ib J30_c0_80 (-1) 20 → ib J30_c0_117 0 1700 → ib (g_bar 4) 10 120 → ib (g_many 3) 1 12 → va_P (dC, dI) vwCl [(a_this, .inr (10, mfs rm x_taped x_at x_end x_ended x_bad x_badPlace x_fault x_faultPlace x_namePlace x_awayTold x_away x_coded x_statements x_isCrossing J30_c0_55 J30_c0_58 J30_c0_59 J30_c0_70 J30_c0_71 J30_c0_72 J30_c0_73 J30_c0_74 x_rowMany J30_c0_78 J30_c0_79 J30_c0_80 x_undoable x_newest x_seeded x_qCoded x_qWaits x_qOpened x_qBase J30_c0_117 x_qAnswer x_qIsNew x_octets)), ((rm 49), .inl (cy 0, 6, .inl g_codeFrom)), ((rm 50), .inl (cy 0, 6, .inl g_codeEnd)), ((rm 116), .inl (cy 1, 1700, .inr (.inl J30_a3))), ((rm 51), .inl (cy 0, 3200, .inl g_codes)), ((rm 46), .inl (cy 0, 48, .inl g_walkers)), ((rm 56), .inl (cy 0, 9, .inl g_now)), ((rm 43), .inl (cy 0, 8, .inl g_bar)), ((rm 65), .inl (cy 0, 12, .inl J30_a8)), ((rm 44), .inl (cy 0, 24, .inl g_kinds)), ((rm 61), .inl (cy 0, 300, .inl J30_a10)), ((rm 66), .inl (cy 3, 12, .inl J30_a11)), ((rm 67), .inl (cy 3, 12, .inl J30_a12)), ((rm 60), .inl (cy 3, 320, .inl J30_a13)), ((rm 63), .inl (cy 3, 12, .inl J30_a14)), ((rm 64), .inl (cy 0, 12, .inl J30_a15)), ((rm 68), .inl (cy 3, 12, .inl J30_a16)), ((rm 69), .inl (cy 3, 300, .inl J30_a17)), ((rm 41), .inl (cy 0, 4, .inl g_many)), ((rm 62), .inl (cy 3, 300, .inl J30_a19)), ((rm 76), .inl (cy 0, 32, .inl g_rows)), ((rm 77), .inl (cy 0, 720, .inl J30_a21))] H → va_D A [(a_this, .inr (10, mfs rm x_taped x_at x_end x_ended x_bad x_badPlace x_fault x_faultPlace x_namePlace x_awayTold x_away x_coded x_statements x_isCrossing J30_c0_55 J30_c0_58 J30_c0_59 J30_c0_70 J30_c0_71 J30_c0_72 J30_c0_73 J30_c0_74 x_rowMany J30_c0_78 J30_c0_79 J30_c0_80 x_undoable x_newest x_seeded x_qCoded x_qWaits x_qOpened x_qBase J30_c0_117 x_qAnswer x_qIsNew x_octets)), ((rm 49), .inl (cy 0, 6, .inl g_codeFrom)), ((rm 50), .inl (cy 0, 6, .inl g_codeEnd)), ((rm 116), .inl (cy 1, 1700, .inr (.inl J30_a3))), ((rm 51), .inl (cy 0, 3200, .inl g_codes)), ((rm 46), .inl (cy 0, 48, .inl g_walkers)), ((rm 56), .inl (cy 0, 9, .inl g_now)), ((rm 43), .inl (cy 0, 8, .inl g_bar)), ((rm 65), .inl (cy 0, 12, .inl J30_a8)), ((rm 44), .inl (cy 0, 24, .inl g_kinds)), ((rm 61), .inl (cy 0, 300, .inl J30_a10)), ((rm 66), .inl (cy 3, 12, .inl J30_a11)), ((rm 67), .inl (cy 3, 12, .inl J30_a12)), ((rm 60), .inl (cy 3, 320, .inl J30_a13)), ((rm 63), .inl (cy 3, 12, .inl J30_a14)), ((rm 64), .inl (cy 0, 12, .inl J30_a15)), ((rm 68), .inl (cy 3, 12, .inl J30_a16)), ((rm 69), .inl (cy 3, 300, .inl J30_a17)), ((rm 41), .inl (cy 0, 4, .inl g_many)), ((rm 62), .inl (cy 3, 300, .inl J30_a19)), ((rm 76), .inl (cy 0, 32, .inl g_rows)), ((rm 77), .inl (cy 0, 720, .inl J30_a21))] → va_S A s.heap H locs → lv_has ls 6 [(0, .ref a_this), (1, .int p0), (2, .int J30_l2), (3, .int J30_l3), (4, .int J30_l4), (5, .int J68_l5)] → W p l e { frames := 7, cells := 0, slots := 0, locals := 160 } s m args below meth c H locs 0 0 Q (F0 m 68 ls []) := by
        intro J68_l5 H locs ls hK68_p0 hK68_J30_l2 hK68_J30_l3 hK68_J30_l4 hJ68_l5 hK68_x_isCrossing hK68_J30_c0_70 hK68_J30_c0_73 hK68_J30_c0_78 hK68_J30_c0_80 hK68_J30_c0_117 hJ68_a7_4 hJ68_a18_3 hP hD hS hl
        refine lv_iload hx hb dX10_watched_68 (lv_at hl 4 rfl) ?_
        refine lv_istore_n (lv' := [(2, .int J30_l4), (0, .ref a_this), (1, .int p0), (3, .int J30_l3), (4, .int J30_l4), (5, .int J68_l5)]) hx hb dX10_watched_70 rfl hl (by decide) rfl (fun ls hl => ?_)
        refine lv_iload hx hb dX10_watched_71 (lv_at hl 5 rfl) ?_
        refine lv_istore_n (lv' := [(3, .int J68_l5), (2, .int J30_l4), (0, .ref a_this), (1, .int p0), (4, .int J30_l4), (5, .int J68_l5)]) hx hb dX10_watched_73 rfl hl (by decide) rfl (fun ls hl => ?_)
        exact jn74 J68_l5 J30_l4 J68_l5 H locs ls (ib_w 0 1 hK68_p0 (by decide)) (ib_w 0 11 hK68_J30_l4 (by decide)) (ib_w 0 2147483647 hJ68_l5 (by decide)) (ib_w 1 1 hK68_x_isCrossing (by decide)) (ib_w 0 1 hK68_J30_c0_70 (by decide)) (ib_w 0 1 hK68_J30_c0_73 (by decide)) (ib_w 1 60 hK68_J30_c0_78 (by decide)) (ib_w (-1) 20 hK68_J30_c0_80 (by decide)) (ib_w 0 1700 hK68_J30_c0_117 (by decide)) (ib_w 10 120 hJ68_a7_4 (by decide)) (ib_w 1 12 hJ68_a18_3 (by decide)) (ib_w 0 2147483647 hK68_J30_l4 (by decide)) (ib_w 0 2147483647 hJ68_l5 (by decide)) hP hD hS (lv_sub hl [2, 3, 1, 0, 4, 5] rfl)
      refine lv_iload hx hb dX10_watched_30 (lv_at hl 4 rfl) ?_
      refine lv_aload_n hx hb dX10_watched_32 rfl (lv_at hl 0 rfl) ?_
      refine k_ji hP hD hS hA [0, 18] [1, 2, 3, 4, 5, 6, 7, 8, 9, 10, 11, 12, 13, 14, 15, 16, 17, 19, 20, 21] (wr := [((rm 49), .inl (cy 0, 6, .inl g_codeFrom)), ((rm 50), .inl (cy 0, 6, .inl g_codeEnd)), ((rm 116), .inl (cy 1, 1700, .inr (.inl J30_a3))), ((rm 51), .inl (cy 0, 3200, .inl g_codes)), ((rm 46), .inl (cy 0, 48, .inl g_walkers)), ((rm 56), .inl (cy 0, 9, .inl g_now)), ((rm 43), .inl (cy 0, 8, .inl g_bar)), ((rm 65), .inl (cy 0, 12, .inl J30_a8)), ((rm 44), .inl (cy 0, 24, .inl g_kinds)), ((rm 61), .inl (cy 0, 300, .inl J30_a10)), ((rm 66), .inl (cy 3, 12, .inl J30_a11)), ((rm 67), .inl (cy 3, 12, .inl J30_a12)), ((rm 60), .inl (cy 3, 320, .inl J30_a13)), ((rm 63), .inl (cy 3, 12, .inl J30_a14)), ((rm 64), .inl (cy 0, 12, .inl J30_a15)), ((rm 68), .inl (cy 3, 12, .inl J30_a16)), ((rm 69), .inl (cy 3, 300, .inl J30_a17)), ((rm 62), .inl (cy 3, 300, .inl J30_a19)), ((rm 76), .inl (cy 0, 32, .inl g_rows)), ((rm 77), .inl (cy 0, 720, .inl J30_a21))]) rfl rfl (by decide) (by decide) (by decide) 0 0 (Nat.le_of_ble_eq_true rfl) (Nat.le_of_ble_eq_true rfl) (fun hPc hDc => k_runV (As := []) (rest := [.int J30_l4]) C0 hZ hS hA (s_X10_walkerMany l dC dI cy sq a_this rm x_taped x_at x_end x_ended x_bad x_badPlace x_fault x_faultPlace x_namePlace x_awayTold x_away x_coded x_statements x_isCrossing J30_c0_55 J30_c0_58 J30_c0_59 J30_c0_70 J30_c0_71 J30_c0_72 J30_c0_73 J30_c0_74 x_rowMany J30_c0_78 J30_c0_79 J30_c0_80 x_undoable x_newest x_seeded x_qCoded x_qWaits x_qOpened x_qBase J30_c0_117 x_qAnswer x_qIsNew x_octets g_many ) mV_X10_433 hPc hDc rfl rfl rfl hl rfl rfl (Nat.le_of_ble_eq_true rfl) ⟨(Nat.le_of_ble_eq_true rfl), (Nat.le_of_ble_eq_true rfl)⟩ ⟨(Nat.le_of_ble_eq_true rfl), (Nat.le_of_ble_eq_true rfl)⟩ dX10_watched_33) (fun r12 u13 H locs hw hP hD hS => ?_)
      try dsimp only at hP hD hw
      have hP : va_P (dC, dI) vwCl [((rm 49), .inl (cy 0, 6, .inl g_codeFrom)), ((rm 50), .inl (cy 0, 6, .inl g_codeEnd)), ((rm 116), .inl (cy 1, 1700, .inr (.inl J30_a3))), ((rm 51), .inl (cy 0, 3200, .inl g_codes)), ((rm 46), .inl (cy 0, 48, .inl g_walkers)), ((rm 56), .inl (cy 0, 9, .inl g_now)), ((rm 43), .inl (cy 0, 8, .inl g_bar)), ((rm 65), .inl (cy 0, 12, .inl J30_a8)), ((rm 44), .inl (cy 0, 24, .inl g_kinds)), ((rm 61), .inl (cy 0, 300, .inl J30_a10)), ((rm 66), .inl (cy 3, 12, .inl J30_a11)), ((rm 67), .inl (cy 3, 12, .inl J30_a12)), ((rm 60), .inl (cy 3, 320, .inl J30_a13)), ((rm 63), .inl (cy 3, 12, .inl J30_a14)), ((rm 64), .inl (cy 0, 12, .inl J30_a15)), ((rm 68), .inl (cy 3, 12, .inl J30_a16)), ((rm 69), .inl (cy 3, 300, .inl J30_a17)), ((rm 62), .inl (cy 3, 300, .inl J30_a19)), ((rm 76), .inl (cy 0, 32, .inl g_rows)), ((rm 77), .inl (cy 0, 720, .inl J30_a21)), (a_this, .inr (10, mfs rm x_taped x_at x_end x_ended x_bad x_badPlace x_fault x_faultPlace x_namePlace x_awayTold x_away x_coded x_statements x_isCrossing J30_c0_55 J30_c0_58 J30_c0_59 J30_c0_70 J30_c0_71 J30_c0_72 J30_c0_73 J30_c0_74 x_rowMany J30_c0_78 J30_c0_79 J30_c0_80 x_undoable x_newest x_seeded x_qCoded x_qWaits x_qOpened x_qBase J30_c0_117 x_qAnswer x_qIsNew x_octets)), ((rm 41), .inl (cy 0, 4, .inl g_many))] H := hP
      have hD : va_D A [((rm 49), .inl (cy 0, 6, .inl g_codeFrom)), ((rm 50), .inl (cy 0, 6, .inl g_codeEnd)), ((rm 116), .inl (cy 1, 1700, .inr (.inl J30_a3))), ((rm 51), .inl (cy 0, 3200, .inl g_codes)), ((rm 46), .inl (cy 0, 48, .inl g_walkers)), ((rm 56), .inl (cy 0, 9, .inl g_now)), ((rm 43), .inl (cy 0, 8, .inl g_bar)), ((rm 65), .inl (cy 0, 12, .inl J30_a8)), ((rm 44), .inl (cy 0, 24, .inl g_kinds)), ((rm 61), .inl (cy 0, 300, .inl J30_a10)), ((rm 66), .inl (cy 3, 12, .inl J30_a11)), ((rm 67), .inl (cy 3, 12, .inl J30_a12)), ((rm 60), .inl (cy 3, 320, .inl J30_a13)), ((rm 63), .inl (cy 3, 12, .inl J30_a14)), ((rm 64), .inl (cy 0, 12, .inl J30_a15)), ((rm 68), .inl (cy 3, 12, .inl J30_a16)), ((rm 69), .inl (cy 3, 300, .inl J30_a17)), ((rm 62), .inl (cy 3, 300, .inl J30_a19)), ((rm 76), .inl (cy 0, 32, .inl g_rows)), ((rm 77), .inl (cy 0, 720, .inl J30_a21)), (a_this, .inr (10, mfs rm x_taped x_at x_end x_ended x_bad x_badPlace x_fault x_faultPlace x_namePlace x_awayTold x_away x_coded x_statements x_isCrossing J30_c0_55 J30_c0_58 J30_c0_59 J30_c0_70 J30_c0_71 J30_c0_72 J30_c0_73 J30_c0_74 x_rowMany J30_c0_78 J30_c0_79 J30_c0_80 x_undoable x_newest x_seeded x_qCoded x_qWaits x_qOpened x_qBase J30_c0_117 x_qAnswer x_qIsNew x_octets)), ((rm 41), .inl (cy 0, 4, .inl g_many))] := hD
      have h14 := hw
      subst h14
      refine lv_icmp_ge (tgt := 80) hx hb dX10_watched_36 (by decide) (fun c15 => ?_) (fun c15 => ?_)
      · have h16 := ib_le hg_many_3 hJ30_l4 c15
        exact jn80 J30_c0_55 J30_c0_58 J30_c0_59 J30_c0_70 J30_c0_71 J30_c0_72 J30_c0_73 J30_c0_74 J30_c0_78 J30_c0_79 J30_c0_80 J30_c0_117 J30_a3 J30_a8 J30_a10 J30_a11 J30_a12 J30_a13 J30_a14 J30_a15 J30_a16 J30_a17 J30_a19 J30_a21 J30_l2 J30_l3 J30_l4 H locs ls (ib_w 0 1 hK30_p0 (by decide)) (ib_w 1 1 hK30_x_isCrossing (by decide)) (ib_w 0 1 hJ30_c0_70 (by decide)) (ib_w 0 1 hJ30_c0_73 (by decide)) (ib_w 0 60 hJ30_c0_78 (by decide)) (ib_w (-1) 20 hJ30_c0_80 (by decide)) (ib_w 0 1700 hJ30_c0_117 (by decide)) (ib_w 10 120 hJ30_a7_4 (by decide)) (ib_w (-1) 2147483647 hJ30_l2 (by decide)) (ib_w 0 2147483647 hJ30_l3 (by decide)) (ib_w 0 12 hJ30_l4 (by decide)) hJ30_a10 (hP.sub [20, 0, 1, 2, 3, 4, 5, 6, 7, 8, 9, 10, 11, 12, 13, 14, 15, 16, 21, 17, 18, 19] rfl) (hD.sub [20, 0, 1, 2, 3, 4, 5, 6, 7, 8, 9, 10, 11, 12, 13, 14, 15, 16, 21, 17, 18, 19] (by decide) rfl) hS (lv_sub hl [0, 1, 2, 3, 4] rfl)
      · have h17 := ib_nle hg_many_3 hJ30_l4 c15
        have h18 : ib (g_many 3) 1 12 := ib_w 1 12 h17.1 (by decide)
        have h19 : ib J30_l4 0 11 := ib_w 0 11 h17.2 (by decide)
        refine lv_aload_n hx hb dX10_watched_39 rfl (lv_at hl 0 rfl) ?_
        refine k_get C0 fg_X10_570 hP 20 rfl rfl dX10_watched_40 ?_
        refine lv_if_le (tgt := 80) hx hb dX10_watched_43 (by decide) (fun c20 => ?_) (fun c20 => ?_)
        · have h21 := ib_le hJ30_c0_78 (ib_c 0 0 0 (by decide)) c20
          have h22 : ib J30_c0_78 0 0 := ib_w 0 0 h21.1 (by decide)
          exact jn80 J30_c0_55 J30_c0_58 J30_c0_59 J30_c0_70 J30_c0_71 J30_c0_72 J30_c0_73 J30_c0_74 J30_c0_78 J30_c0_79 J30_c0_80 J30_c0_117 J30_a3 J30_a8 J30_a10 J30_a11 J30_a12 J30_a13 J30_a14 J30_a15 J30_a16 J30_a17 J30_a19 J30_a21 J30_l2 J30_l3 J30_l4 H locs ls (ib_w 0 1 hK30_p0 (by decide)) (ib_w 1 1 hK30_x_isCrossing (by decide)) (ib_w 0 1 hJ30_c0_70 (by decide)) (ib_w 0 1 hJ30_c0_73 (by decide)) (ib_w 0 60 h22 (by decide)) (ib_w (-1) 20 hJ30_c0_80 (by decide)) (ib_w 0 1700 hJ30_c0_117 (by decide)) (ib_w 10 120 hJ30_a7_4 (by decide)) (ib_w (-1) 2147483647 hJ30_l2 (by decide)) (ib_w 0 2147483647 hJ30_l3 (by decide)) (ib_w 0 12 h19 (by decide)) hJ30_a10 (hP.sub [20, 0, 1, 2, 3, 4, 5, 6, 7, 8, 9, 10, 11, 12, 13, 14, 15, 16, 21, 17, 18, 19] rfl) (hD.sub [20, 0, 1, 2, 3, 4, 5, 6, 7, 8, 9, 10, 11, 12, 13, 14, 15, 16, 21, 17, 18, 19] (by decide) rfl) hS (lv_sub hl [0, 1, 2, 3, 4] rfl)
        · have h23 := ib_nle hJ30_c0_78 (ib_c 0 0 0 (by decide)) c20
          have h24 : ib J30_c0_78 1 60 := ib_w 1 60 h23.1 (by decide)
          refine lv_aload_n hx hb dX10_watched_46 rfl (lv_at hl 0 rfl) ?_
          refine lv_iload hx hb dX10_watched_47 (lv_at hl 4 rfl) ?_
          refine k_ji hP hD hS hA [20, 19] [0, 1, 2, 3, 4, 5, 6, 7, 8, 9, 10, 11, 12, 13, 14, 15, 16, 17, 18, 21] (wr := [((rm 49), .inl (cy 0, 6, .inl g_codeFrom)), ((rm 50), .inl (cy 0, 6, .inl g_codeEnd)), ((rm 116), .inl (cy 1, 1700, .inr (.inl J30_a3))), ((rm 51), .inl (cy 0, 3200, .inl g_codes)), ((rm 46), .inl (cy 0, 48, .inl g_walkers)), ((rm 56), .inl (cy 0, 9, .inl g_now)), ((rm 43), .inl (cy 0, 8, .inl g_bar)), ((rm 65), .inl (cy 0, 12, .inl J30_a8)), ((rm 44), .inl (cy 0, 24, .inl g_kinds)), ((rm 61), .inl (cy 0, 300, .inl J30_a10)), ((rm 66), .inl (cy 3, 12, .inl J30_a11)), ((rm 67), .inl (cy 3, 12, .inl J30_a12)), ((rm 60), .inl (cy 3, 320, .inl J30_a13)), ((rm 63), .inl (cy 3, 12, .inl J30_a14)), ((rm 64), .inl (cy 0, 12, .inl J30_a15)), ((rm 68), .inl (cy 3, 12, .inl J30_a16)), ((rm 69), .inl (cy 3, 300, .inl J30_a17)), ((rm 62), .inl (cy 3, 300, .inl J30_a19)), ((rm 76), .inl (cy 0, 32, .inl g_rows)), ((rm 41), .inl (cy 0, 4, .inl g_many))]) rfl rfl (by decide) (by decide) (by decide) 0 0 (Nat.le_of_ble_eq_true rfl) (Nat.le_of_ble_eq_true rfl) (fun hPc hDc => k_runV (As := [.int J30_l4]) (rest := []) C0 hZ hS hA (s_X10_mostAlike l dC dI cy sq a_this rm x_taped x_at x_end x_ended x_bad x_badPlace x_fault x_faultPlace x_namePlace x_awayTold x_away x_coded x_statements x_isCrossing J30_c0_55 J30_c0_58 J30_c0_59 J30_c0_70 J30_c0_71 J30_c0_72 J30_c0_73 J30_c0_74 x_rowMany J30_c0_78 J30_c0_79 J30_c0_80 x_undoable x_newest x_seeded x_qCoded x_qWaits x_qOpened x_qBase J30_c0_117 x_qAnswer x_qIsNew x_octets J30_a21 J30_l4 (ib_w 0 60 h24 (by decide)) (ib_w 0 11 h19 (by decide))) mV_X10_585 hPc hDc rfl rfl rfl hl rfl rfl (Nat.le_of_ble_eq_true rfl) ⟨(Nat.le_of_ble_eq_true rfl), (Nat.le_of_ble_eq_true rfl)⟩ ⟨(Nat.le_of_ble_eq_true rfl), (Nat.le_of_ble_eq_true rfl)⟩ dX10_watched_49) (fun r25 u26 H locs hw hP hD hS => ?_)
          try dsimp only at hP hD hw
          have hP : va_P (dC, dI) vwCl [((rm 49), .inl (cy 0, 6, .inl g_codeFrom)), ((rm 50), .inl (cy 0, 6, .inl g_codeEnd)), ((rm 116), .inl (cy 1, 1700, .inr (.inl J30_a3))), ((rm 51), .inl (cy 0, 3200, .inl g_codes)), ((rm 46), .inl (cy 0, 48, .inl g_walkers)), ((rm 56), .inl (cy 0, 9, .inl g_now)), ((rm 43), .inl (cy 0, 8, .inl g_bar)), ((rm 65), .inl (cy 0, 12, .inl J30_a8)), ((rm 44), .inl (cy 0, 24, .inl g_kinds)), ((rm 61), .inl (cy 0, 300, .inl J30_a10)), ((rm 66), .inl (cy 3, 12, .inl J30_a11)), ((rm 67), .inl (cy 3, 12, .inl J30_a12)), ((rm 60), .inl (cy 3, 320, .inl J30_a13)), ((rm 63), .inl (cy 3, 12, .inl J30_a14)), ((rm 64), .inl (cy 0, 12, .inl J30_a15)), ((rm 68), .inl (cy 3, 12, .inl J30_a16)), ((rm 69), .inl (cy 3, 300, .inl J30_a17)), ((rm 62), .inl (cy 3, 300, .inl J30_a19)), ((rm 76), .inl (cy 0, 32, .inl g_rows)), ((rm 41), .inl (cy 0, 4, .inl g_many)), (a_this, .inr (10, mfs rm x_taped x_at x_end x_ended x_bad x_badPlace x_fault x_faultPlace x_namePlace x_awayTold x_away x_coded x_statements x_isCrossing J30_c0_55 J30_c0_58 J30_c0_59 J30_c0_70 J30_c0_71 J30_c0_72 J30_c0_73 J30_c0_74 x_rowMany J30_c0_78 J30_c0_79 J30_c0_80 x_undoable x_newest x_seeded x_qCoded x_qWaits x_qOpened x_qBase J30_c0_117 x_qAnswer x_qIsNew x_octets)), ((rm 77), .inl (cy 0, 720, .inl J30_a21))] H := hP
          have hD : va_D A [((rm 49), .inl (cy 0, 6, .inl g_codeFrom)), ((rm 50), .inl (cy 0, 6, .inl g_codeEnd)), ((rm 116), .inl (cy 1, 1700, .inr (.inl J30_a3))), ((rm 51), .inl (cy 0, 3200, .inl g_codes)), ((rm 46), .inl (cy 0, 48, .inl g_walkers)), ((rm 56), .inl (cy 0, 9, .inl g_now)), ((rm 43), .inl (cy 0, 8, .inl g_bar)), ((rm 65), .inl (cy 0, 12, .inl J30_a8)), ((rm 44), .inl (cy 0, 24, .inl g_kinds)), ((rm 61), .inl (cy 0, 300, .inl J30_a10)), ((rm 66), .inl (cy 3, 12, .inl J30_a11)), ((rm 67), .inl (cy 3, 12, .inl J30_a12)), ((rm 60), .inl (cy 3, 320, .inl J30_a13)), ((rm 63), .inl (cy 3, 12, .inl J30_a14)), ((rm 64), .inl (cy 0, 12, .inl J30_a15)), ((rm 68), .inl (cy 3, 12, .inl J30_a16)), ((rm 69), .inl (cy 3, 300, .inl J30_a17)), ((rm 62), .inl (cy 3, 300, .inl J30_a19)), ((rm 76), .inl (cy 0, 32, .inl g_rows)), ((rm 41), .inl (cy 0, 4, .inl g_many)), (a_this, .inr (10, mfs rm x_taped x_at x_end x_ended x_bad x_badPlace x_fault x_faultPlace x_namePlace x_awayTold x_away x_coded x_statements x_isCrossing J30_c0_55 J30_c0_58 J30_c0_59 J30_c0_70 J30_c0_71 J30_c0_72 J30_c0_73 J30_c0_74 x_rowMany J30_c0_78 J30_c0_79 J30_c0_80 x_undoable x_newest x_seeded x_qCoded x_qWaits x_qOpened x_qBase J30_c0_117 x_qAnswer x_qIsNew x_octets)), ((rm 77), .inl (cy 0, 720, .inl J30_a21))] := hD
          have h27 := hw
          refine lv_istore (lv' := [(5, .int r25), (0, .ref a_this), (1, .int p0), (2, .int J30_l2), (3, .int J30_l3), (4, .int J30_l4)]) hx hb dX10_watched_52 hl (by decide) rfl (fun ls hl => ?_)
          refine lv_iload_n hx hb dX10_watched_54 rfl (lv_at hl 3 rfl) ?_
          refine lv_iconst (v := (-1)) hx hb dX10_watched_55 (by decide) ?_
          refine lv_icmp_eq (tgt := 68) hx hb dX10_watched_56 (by decide) (fun c28 => ?_) (fun c28 => ?_)
          · have h29 := ib_eq hJ30_l2 (ib_c (-1) (-1) (-1) (by decide)) c28
            have h30 : ib J30_l2 (-1) (-1) := ib_w (-1) (-1) h29.1 (by decide)
            exact jn68 r25 H locs ls (ib_w 0 1 hK30_p0 (by decide)) (ib_w (-1) 2147483647 h30 (by decide)) (ib_w 0 2147483647 hJ30_l3 (by decide)) (ib_w 0 11 h19 (by decide)) (ib_w 0 2147483647 h27 (by decide)) (ib_w 1 1 hK30_x_isCrossing (by decide)) (ib_w 0 1 hJ30_c0_70 (by decide)) (ib_w 0 1 hJ30_c0_73 (by decide)) (ib_w 1 60 h24 (by decide)) (ib_w (-1) 20 hJ30_c0_80 (by decide)) (ib_w 0 1700 hJ30_c0_117 (by decide)) (ib_w 10 120 hJ30_a7_4 (by decide)) (ib_w 1 12 h18 (by decide)) (hP.sub [20, 0, 1, 2, 3, 4, 5, 6, 7, 8, 9, 10, 11, 12, 13, 14, 15, 16, 19, 17, 18, 21] rfl) (hD.sub [20, 0, 1, 2, 3, 4, 5, 6, 7, 8, 9, 10, 11, 12, 13, 14, 15, 16, 19, 17, 18, 21] (by decide) rfl) hS (lv_sub hl [1, 2, 3, 4, 5, 0] rfl)
          · have h31 : ib J30_l2 0 2147483647 := ib_w 0 2147483647 (ib_ne_lo (-1) hJ30_l2 (by decide) c28) (by decide)
            refine lv_iload hx hb dX10_watched_59 (lv_at hl 0 rfl) ?_
            refine lv_iload_n hx hb dX10_watched_61 rfl (lv_at hl 4 rfl) ?_
            refine lv_icmp_lt (tgt := 68) hx hb dX10_watched_62 (by decide) (fun c32 => ?_) (fun c32 => ?_)
            · have h33 := ib_lt h27 hJ30_l3 c32
              have h34 : ib r25 0 2147483646 := ib_w 0 2147483646 h33.1 (by decide)
              have h35 : ib J30_l3 1 2147483647 := ib_w 1 2147483647 h33.2 (by decide)
              exact jn68 r25 H locs ls (ib_w 0 1 hK30_p0 (by decide)) (ib_w (-1) 2147483647 h31 (by decide)) (ib_w 0 2147483647 h35 (by decide)) (ib_w 0 11 h19 (by decide)) (ib_w 0 2147483647 h34 (by decide)) (ib_w 1 1 hK30_x_isCrossing (by decide)) (ib_w 0 1 hJ30_c0_70 (by decide)) (ib_w 0 1 hJ30_c0_73 (by decide)) (ib_w 1 60 h24 (by decide)) (ib_w (-1) 20 hJ30_c0_80 (by decide)) (ib_w 0 1700 hJ30_c0_117 (by decide)) (ib_w 10 120 hJ30_a7_4 (by decide)) (ib_w 1 12 h18 (by decide)) (hP.sub [20, 0, 1, 2, 3, 4, 5, 6, 7, 8, 9, 10, 11, 12, 13, 14, 15, 16, 19, 17, 18, 21] rfl) (hD.sub [20, 0, 1, 2, 3, 4, 5, 6, 7, 8, 9, 10, 11, 12, 13, 14, 15, 16, 19, 17, 18, 21] (by decide) rfl) hS (lv_sub hl [1, 2, 3, 4, 5, 0] rfl)
            · have h36 := ib_nlt h27 hJ30_l3 c32
              refine lv_goto (tgt := 74) hx hb dX10_watched_65 (by decide) ?_
              exact jn74 r25 J30_l2 J30_l3 H locs ls (ib_w 0 1 hK30_p0 (by decide)) (ib_w 0 11 h19 (by decide)) (ib_w 0 2147483647 h27 (by decide)) (ib_w 1 1 hK30_x_isCrossing (by decide)) (ib_w 0 1 hJ30_c0_70 (by decide)) (ib_w 0 1 hJ30_c0_73 (by decide)) (ib_w 1 60 h24 (by decide)) (ib_w (-1) 20 hJ30_c0_80 (by decide)) (ib_w 0 1700 hJ30_c0_117 (by decide)) (ib_w 10 120 hJ30_a7_4 (by decide)) (ib_w 1 12 h18 (by decide)) (ib_w 0 2147483647 h31 (by decide)) (ib_w 0 2147483647 hJ30_l3 (by decide)) (hP.sub [20, 0, 1, 2, 3, 4, 5, 6, 7, 8, 9, 10, 11, 12, 13, 14, 15, 16, 19, 17, 18, 21] rfl) (hD.sub [20, 0, 1, 2, 3, 4, 5, 6, 7, 8, 9, 10, 11, 12, 13, 14, 15, 16, 19, 17, 18, 21] (by decide) rfl) hS (lv_sub hl [1, 2, 3, 4, 5, 0] rfl)
  have jn17 : ∀  (H : Heap) (locs : List Loc) (ls : Array Slot), va_P (dC, dI) vwCl [(a_this, .inr (10, mfs rm x_taped x_at x_end x_ended x_bad x_badPlace x_fault x_faultPlace x_namePlace x_awayTold x_away x_coded x_statements x_isCrossing x_textKind x_askSecond x_redMany x_isOpen x_lastGreen x_greenTo x_isCycleGreen x_stillGreen x_rowMany x_fitMany x_fitRules x_fitGreen x_undoable x_newest x_seeded x_qCoded x_qWaits x_qOpened x_qBase x_qPiled x_qAnswer x_qIsNew x_octets)), ((rm 49), .inl (cy 0, 6, .inl g_codeFrom)), ((rm 50), .inl (cy 0, 6, .inl g_codeEnd)), ((rm 116), .inl (cy 1, 1700, .inr (.inl g_qPile))), ((rm 51), .inl (cy 0, 3200, .inl g_codes)), ((rm 46), .inl (cy 0, 48, .inl g_walkers)), ((rm 56), .inl (cy 0, 9, .inl g_now)), ((rm 43), .inl (cy 0, 8, .inl g_bar)), ((rm 65), .inl (cy 0, 12, .inl g_waits)), ((rm 44), .inl (cy 0, 24, .inl g_kinds)), ((rm 61), .inl (cy 0, 300, .inl g_gaps)), ((rm 66), .inl (cy 3, 12, .inl g_goes)), ((rm 67), .inl (cy 3, 12, .inl g_harms)), ((rm 60), .inl (cy 3, 320, .inl g_isCar)), ((rm 63), .inl (cy 3, 12, .inl g_isHere)), ((rm 64), .inl (cy 0, 12, .inl g_crosses)), ((rm 68), .inl (cy 3, 12, .inl g_presses)), ((rm 69), .inl (cy 3, 300, .inl g_crossedIn)), ((rm 41), .inl (cy 0, 4, .inl g_many)), ((rm 62), .inl (cy 3, 300, .inl g_isGreen)), ((rm 76), .inl (cy 0, 32, .inl g_rows)), ((rm 77), .inl (cy 0, 720, .inl g_when))] H → va_D A [(a_this, .inr (10, mfs rm x_taped x_at x_end x_ended x_bad x_badPlace x_fault x_faultPlace x_namePlace x_awayTold x_away x_coded x_statements x_isCrossing x_textKind x_askSecond x_redMany x_isOpen x_lastGreen x_greenTo x_isCycleGreen x_stillGreen x_rowMany x_fitMany x_fitRules x_fitGreen x_undoable x_newest x_seeded x_qCoded x_qWaits x_qOpened x_qBase x_qPiled x_qAnswer x_qIsNew x_octets)), ((rm 49), .inl (cy 0, 6, .inl g_codeFrom)), ((rm 50), .inl (cy 0, 6, .inl g_codeEnd)), ((rm 116), .inl (cy 1, 1700, .inr (.inl g_qPile))), ((rm 51), .inl (cy 0, 3200, .inl g_codes)), ((rm 46), .inl (cy 0, 48, .inl g_walkers)), ((rm 56), .inl (cy 0, 9, .inl g_now)), ((rm 43), .inl (cy 0, 8, .inl g_bar)), ((rm 65), .inl (cy 0, 12, .inl g_waits)), ((rm 44), .inl (cy 0, 24, .inl g_kinds)), ((rm 61), .inl (cy 0, 300, .inl g_gaps)), ((rm 66), .inl (cy 3, 12, .inl g_goes)), ((rm 67), .inl (cy 3, 12, .inl g_harms)), ((rm 60), .inl (cy 3, 320, .inl g_isCar)), ((rm 63), .inl (cy 3, 12, .inl g_isHere)), ((rm 64), .inl (cy 0, 12, .inl g_crosses)), ((rm 68), .inl (cy 3, 12, .inl g_presses)), ((rm 69), .inl (cy 3, 300, .inl g_crossedIn)), ((rm 41), .inl (cy 0, 4, .inl g_many)), ((rm 62), .inl (cy 3, 300, .inl g_isGreen)), ((rm 76), .inl (cy 0, 32, .inl g_rows)), ((rm 77), .inl (cy 0, 720, .inl g_when))] → va_S A s.heap H locs → lv_has ls 6 [(0, .ref a_this), (1, .int p0)] → W p l e { frames := 7, cells := 0, slots := 0, locals := 160 } s m args below meth c H locs 0 0 Q (F0 m 17 ls []) := by
    intro H locs ls hP hD hS hl
    refine lv_iconst (v := (-1)) hx hb dX10_watched_17 (by decide) ?_
    subst hQ; exact k_iret hx hb hr hlk rfl ((x_textKind, x_askSecond, x_redMany, x_isOpen, x_lastGreen, x_greenTo, x_isCycleGreen, x_stillGreen, x_fitMany, x_fitRules, x_fitGreen, x_qPiled, g_qPile, g_waits, g_gaps, g_goes, g_harms, g_isCar, g_isHere, g_crosses, g_presses, g_crossedIn, g_isGreen, g_when)) hS ⟨ib_w 0 1 hx_isOpen (by decide), ib_w 0 1 hx_isCycleGreen (by decide), ib_w 0 60 hx_fitMany (by decide), ib_w 0 1700 hx_qPiled (by decide), hg_gaps, ib_w (-1) 2147483647 (ib_c (-1) (-1) (-1) (by decide)) (by decide)⟩ hP hD (Nat.le_of_ble_eq_true rfl) (Nat.le_of_ble_eq_true rfl) dX10_watched_18
  refine lv_aload_n hx hb dX10_watched_0 rfl (lv_at hl 0 rfl) ?_
  refine k_get C0 fg_X10_417 hP 0 rfl rfl dX10_watched_1 ?_
  refine lv_if_eq (tgt := 17) hx hb dX10_watched_4 (by decide) (fun c37 => ?_) (fun c37 => ?_)
  · have h38 := ib_eq hx_isCrossing (ib_c 0 0 0 (by decide)) c37
    have h39 : ib x_isCrossing 0 0 := ib_w 0 0 h38.1 (by decide)
    exact jn17  H locs ls  hP hD hS (lv_sub hl [0, 1] rfl)
  · have h40 : ib x_isCrossing 1 1 := ib_w 1 1 (ib_ne_lo 0 hx_isCrossing (by decide) c37) (by decide)
    have h41 : ib (g_bar 4) 10 120 := ib_w 10 120 (ib_two hg_bar_4 (hc_cr (ib_nz h40 (by decide)))) (by decide)
    refine lv_iload_n hx hb dX10_watched_7 rfl (lv_at hl 1 rfl) ?_
    refine lv_i2l (v := p0.toInt64) hx hb dX10_watched_8 rfl ?_
    refine lv_lconst (v := 0) hx hb dX10_watched_9 (by decide) ?_
    refine lv_lconst (v := 1) hx hb dX10_watched_10 (by decide) ?_
    refine k_ji hP hD hS hA [] [0, 1, 2, 3, 4, 5, 6, 7, 8, 9, 10, 11, 12, 13, 14, 15, 16, 17, 18, 19, 20, 21] (wr := [(a_this, .inr (10, mfs rm x_taped x_at x_end x_ended x_bad x_badPlace x_fault x_faultPlace x_namePlace x_awayTold x_away x_coded x_statements x_isCrossing x_textKind x_askSecond x_redMany x_isOpen x_lastGreen x_greenTo x_isCycleGreen x_stillGreen x_rowMany x_fitMany x_fitRules x_fitGreen x_undoable x_newest x_seeded x_qCoded x_qWaits x_qOpened x_qBase x_qPiled x_qAnswer x_qIsNew x_octets)), ((rm 49), .inl (cy 0, 6, .inl g_codeFrom)), ((rm 50), .inl (cy 0, 6, .inl g_codeEnd)), ((rm 116), .inl (cy 1, 1700, .inr (.inl g_qPile))), ((rm 51), .inl (cy 0, 3200, .inl g_codes)), ((rm 46), .inl (cy 0, 48, .inl g_walkers)), ((rm 56), .inl (cy 0, 9, .inl g_now)), ((rm 43), .inl (cy 0, 8, .inl g_bar)), ((rm 65), .inl (cy 0, 12, .inl g_waits)), ((rm 44), .inl (cy 0, 24, .inl g_kinds)), ((rm 61), .inl (cy 0, 300, .inl g_gaps)), ((rm 66), .inl (cy 3, 12, .inl g_goes)), ((rm 67), .inl (cy 3, 12, .inl g_harms)), ((rm 60), .inl (cy 3, 320, .inl g_isCar)), ((rm 63), .inl (cy 3, 12, .inl g_isHere)), ((rm 64), .inl (cy 0, 12, .inl g_crosses)), ((rm 68), .inl (cy 3, 12, .inl g_presses)), ((rm 69), .inl (cy 3, 300, .inl g_crossedIn)), ((rm 41), .inl (cy 0, 4, .inl g_many)), ((rm 62), .inl (cy 3, 300, .inl g_isGreen)), ((rm 76), .inl (cy 0, 32, .inl g_rows)), ((rm 77), .inl (cy 0, 720, .inl g_when))]) rfl rfl (by decide) (by decide) (by decide) 0 0 (Nat.le_of_ble_eq_true rfl) (Nat.le_of_ble_eq_true rfl) (fun hPc hDc => k_runS (As := [.long p0.toInt64, .long 0, .long 1]) (rest := []) C0 hZ hS hA (c_isIn l dC dI cy sq p0.toInt64 0 1) mS_X10_318 hPc hDc hl rfl rfl (Nat.le_of_ble_eq_true rfl) ⟨(Nat.le_of_ble_eq_true rfl), (Nat.le_of_ble_eq_true rfl)⟩ ⟨(Nat.le_of_ble_eq_true rfl), (Nat.le_of_ble_eq_true rfl)⟩ dX10_watched_11) (fun r42 u43 H locs hw hP hD hS => ?_)
    have hP : va_P (dC, dI) vwCl [(a_this, .inr (10, mfs rm x_taped x_at x_end x_ended x_bad x_badPlace x_fault x_faultPlace x_namePlace x_awayTold x_away x_coded x_statements x_isCrossing x_textKind x_askSecond x_redMany x_isOpen x_lastGreen x_greenTo x_isCycleGreen x_stillGreen x_rowMany x_fitMany x_fitRules x_fitGreen x_undoable x_newest x_seeded x_qCoded x_qWaits x_qOpened x_qBase x_qPiled x_qAnswer x_qIsNew x_octets)), ((rm 49), .inl (cy 0, 6, .inl g_codeFrom)), ((rm 50), .inl (cy 0, 6, .inl g_codeEnd)), ((rm 116), .inl (cy 1, 1700, .inr (.inl g_qPile))), ((rm 51), .inl (cy 0, 3200, .inl g_codes)), ((rm 46), .inl (cy 0, 48, .inl g_walkers)), ((rm 56), .inl (cy 0, 9, .inl g_now)), ((rm 43), .inl (cy 0, 8, .inl g_bar)), ((rm 65), .inl (cy 0, 12, .inl g_waits)), ((rm 44), .inl (cy 0, 24, .inl g_kinds)), ((rm 61), .inl (cy 0, 300, .inl g_gaps)), ((rm 66), .inl (cy 3, 12, .inl g_goes)), ((rm 67), .inl (cy 3, 12, .inl g_harms)), ((rm 60), .inl (cy 3, 320, .inl g_isCar)), ((rm 63), .inl (cy 3, 12, .inl g_isHere)), ((rm 64), .inl (cy 0, 12, .inl g_crosses)), ((rm 68), .inl (cy 3, 12, .inl g_presses)), ((rm 69), .inl (cy 3, 300, .inl g_crossedIn)), ((rm 41), .inl (cy 0, 4, .inl g_many)), ((rm 62), .inl (cy 3, 300, .inl g_isGreen)), ((rm 76), .inl (cy 0, 32, .inl g_rows)), ((rm 77), .inl (cy 0, 720, .inl g_when))] H := hP
    have hD : va_D A [(a_this, .inr (10, mfs rm x_taped x_at x_end x_ended x_bad x_badPlace x_fault x_faultPlace x_namePlace x_awayTold x_away x_coded x_statements x_isCrossing x_textKind x_askSecond x_redMany x_isOpen x_lastGreen x_greenTo x_isCycleGreen x_stillGreen x_rowMany x_fitMany x_fitRules x_fitGreen x_undoable x_newest x_seeded x_qCoded x_qWaits x_qOpened x_qBase x_qPiled x_qAnswer x_qIsNew x_octets)), ((rm 49), .inl (cy 0, 6, .inl g_codeFrom)), ((rm 50), .inl (cy 0, 6, .inl g_codeEnd)), ((rm 116), .inl (cy 1, 1700, .inr (.inl g_qPile))), ((rm 51), .inl (cy 0, 3200, .inl g_codes)), ((rm 46), .inl (cy 0, 48, .inl g_walkers)), ((rm 56), .inl (cy 0, 9, .inl g_now)), ((rm 43), .inl (cy 0, 8, .inl g_bar)), ((rm 65), .inl (cy 0, 12, .inl g_waits)), ((rm 44), .inl (cy 0, 24, .inl g_kinds)), ((rm 61), .inl (cy 0, 300, .inl g_gaps)), ((rm 66), .inl (cy 3, 12, .inl g_goes)), ((rm 67), .inl (cy 3, 12, .inl g_harms)), ((rm 60), .inl (cy 3, 320, .inl g_isCar)), ((rm 63), .inl (cy 3, 12, .inl g_isHere)), ((rm 64), .inl (cy 0, 12, .inl g_crosses)), ((rm 68), .inl (cy 3, 12, .inl g_presses)), ((rm 69), .inl (cy 3, 300, .inl g_crossedIn)), ((rm 41), .inl (cy 0, 4, .inl g_many)), ((rm 62), .inl (cy 3, 300, .inl g_isGreen)), ((rm 76), .inl (cy 0, 32, .inl g_rows)), ((rm 77), .inl (cy 0, 720, .inl g_when))] := hD
    have h44 := hw
    have h45 : ib r42 0 1 := by rw [h44]; exact k_isf_01 _ _ _
    refine lv_if_ne (tgt := 19) hx hb dX10_watched_14 (by decide) (fun c46 => ?_) (fun c46 => ?_)
    · have h47 : ib r42 1 1 := ib_w 1 1 (ib_ne_lo 0 h45 (by decide) c46) (by decide)
      have h48 : ib p0 0 1 := ib_w 0 1 (ib_two (ib_any p0) (k_isf_v h44 (show 0 ≤ (0 : Int64).toInt by decide) (show (1 : Int64).toInt ≤ 1 by decide) (ib_nz h47 (by decide)))) (by decide)
      refine lv_aload_n hx hb dX10_watched_19 rfl (lv_at hl 0 rfl) ?_
      refine k_jv hP hD hS hA [0, 1, 2, 3, 4, 5, 6, 7, 8, 9, 10, 11, 12, 13, 14, 15, 16, 17, 18, 19, 20, 21] [] (wr := []) rfl rfl (by decide) (by decide) (by decide) 0 0 (Nat.le_of_ble_eq_true rfl) (Nat.le_of_ble_eq_true rfl) (fun hPc hDc => k_runV (As := []) (rest := []) C0 hZ hS hA (s_X10_laysFits l dC dI cy sq a_this rm x_taped x_at x_end x_ended x_bad x_badPlace x_fault x_faultPlace x_namePlace x_awayTold x_away x_coded x_statements x_isCrossing x_textKind x_askSecond x_redMany x_isOpen x_lastGreen x_greenTo x_isCycleGreen x_stillGreen x_rowMany x_fitMany x_fitRules x_fitGreen x_undoable x_newest x_seeded x_qCoded x_qWaits x_qOpened x_qBase x_qPiled x_qAnswer x_qIsNew x_octets g_many g_bar g_kinds g_walkers g_codeFrom g_codeEnd g_codes g_now g_isCar g_gaps g_isGreen g_isHere g_crosses g_waits g_goes g_harms g_presses g_crossedIn g_rows g_when g_qPile (ib_w 0 1 hx_isOpen (by decide)) (ib_w 0 1 hx_isCycleGreen (by decide)) (ib_w 0 16 hx_rowMany (by decide)) (ib_w 0 1700 hx_qPiled (by decide)) (ib_w 0 12 hg_many_3 (by decide)) (ib_w 10 120 h41 (by decide)) hpg_walkers (ib_w (-1) 1600 hg_codeFrom_3 (by decide)) (ib_w (-1) 1600 hg_codeFrom_4 (by decide)) (ib_w 0 1600 hg_codeEnd_3 (by decide)) (ib_w 0 1600 hg_codeEnd_4 (by decide)) hg_gaps hpg_rows hG0 hG1) mV_X10_582 hPc hDc rfl rfl rfl hl rfl rfl (Nat.le_of_ble_eq_true rfl) ⟨(Nat.le_of_ble_eq_true rfl), (Nat.le_of_ble_eq_true rfl)⟩ ⟨(Nat.le_of_ble_eq_true rfl), (Nat.le_of_ble_eq_true rfl)⟩ dX10_watched_20) (fun u50 H locs hw hP hD hS => ?_)
      obtain ⟨v51, v52, v53, v54, v55, v56, v57, v58, v59, v60, v61, v62, f63, f64, f65, f66, f67, f68, f69, f70, f71, f72, f73, f74⟩ := u50
      try dsimp only at hP hD hw
      have hP : va_P (dC, dI) vwCl [(a_this, .inr (10, mfs rm x_taped x_at x_end x_ended x_bad x_badPlace x_fault x_faultPlace x_namePlace x_awayTold x_away x_coded x_statements x_isCrossing v51 v52 v53 v54 v55 v56 v57 v58 x_rowMany v59 v60 v61 x_undoable x_newest x_seeded x_qCoded x_qWaits x_qOpened x_qBase v62 x_qAnswer x_qIsNew x_octets)), ((rm 49), .inl (cy 0, 6, .inl g_codeFrom)), ((rm 50), .inl (cy 0, 6, .inl g_codeEnd)), ((rm 116), .inl (cy 1, 1700, .inr (.inl f63))), ((rm 51), .inl (cy 0, 3200, .inl g_codes)), ((rm 46), .inl (cy 0, 48, .inl g_walkers)), ((rm 56), .inl (cy 0, 9, .inl g_now)), ((rm 43), .inl (cy 0, 8, .inl g_bar)), ((rm 65), .inl (cy 0, 12, .inl f64)), ((rm 44), .inl (cy 0, 24, .inl g_kinds)), ((rm 61), .inl (cy 0, 300, .inl f65)), ((rm 66), .inl (cy 3, 12, .inl f66)), ((rm 67), .inl (cy 3, 12, .inl f67)), ((rm 60), .inl (cy 3, 320, .inl f68)), ((rm 63), .inl (cy 3, 12, .inl f69)), ((rm 64), .inl (cy 0, 12, .inl f70)), ((rm 68), .inl (cy 3, 12, .inl f71)), ((rm 69), .inl (cy 3, 300, .inl f72)), ((rm 41), .inl (cy 0, 4, .inl g_many)), ((rm 62), .inl (cy 3, 300, .inl f73)), ((rm 76), .inl (cy 0, 32, .inl g_rows)), ((rm 77), .inl (cy 0, 720, .inl f74))] H := hP
      have hD : va_D A [(a_this, .inr (10, mfs rm x_taped x_at x_end x_ended x_bad x_badPlace x_fault x_faultPlace x_namePlace x_awayTold x_away x_coded x_statements x_isCrossing v51 v52 v53 v54 v55 v56 v57 v58 x_rowMany v59 v60 v61 x_undoable x_newest x_seeded x_qCoded x_qWaits x_qOpened x_qBase v62 x_qAnswer x_qIsNew x_octets)), ((rm 49), .inl (cy 0, 6, .inl g_codeFrom)), ((rm 50), .inl (cy 0, 6, .inl g_codeEnd)), ((rm 116), .inl (cy 1, 1700, .inr (.inl f63))), ((rm 51), .inl (cy 0, 3200, .inl g_codes)), ((rm 46), .inl (cy 0, 48, .inl g_walkers)), ((rm 56), .inl (cy 0, 9, .inl g_now)), ((rm 43), .inl (cy 0, 8, .inl g_bar)), ((rm 65), .inl (cy 0, 12, .inl f64)), ((rm 44), .inl (cy 0, 24, .inl g_kinds)), ((rm 61), .inl (cy 0, 300, .inl f65)), ((rm 66), .inl (cy 3, 12, .inl f66)), ((rm 67), .inl (cy 3, 12, .inl f67)), ((rm 60), .inl (cy 3, 320, .inl f68)), ((rm 63), .inl (cy 3, 12, .inl f69)), ((rm 64), .inl (cy 0, 12, .inl f70)), ((rm 68), .inl (cy 3, 12, .inl f71)), ((rm 69), .inl (cy 3, 300, .inl f72)), ((rm 41), .inl (cy 0, 4, .inl g_many)), ((rm 62), .inl (cy 3, 300, .inl f73)), ((rm 76), .inl (cy 0, 32, .inl g_rows)), ((rm 77), .inl (cy 0, 720, .inl f74))] := hD
      obtain ⟨h75, h76, h77, h78, h79, h80⟩ := hw
      refine lv_iconst (v := (-1)) hx hb dX10_watched_23 (by decide) ?_
      refine lv_istore_n (lv' := [(2, .int (-1)), (0, .ref a_this), (1, .int p0)]) hx hb dX10_watched_24 rfl hl (by decide) rfl (fun ls hl => ?_)
      refine lv_iconst (v := 0) hx hb dX10_watched_25 (by decide) ?_
      refine lv_istore_n (lv' := [(3, .int 0), (2, .int (-1)), (0, .ref a_this), (1, .int p0)]) hx hb dX10_watched_26 rfl hl (by decide) rfl (fun ls hl => ?_)
      refine lv_iconst (v := 0) hx hb dX10_watched_27 (by decide) ?_
      refine lv_istore (lv' := [(4, .int 0), (3, .int 0), (2, .int (-1)), (0, .ref a_this), (1, .int p0)]) hx hb dX10_watched_28 hl (by decide) rfl (fun ls hl => ?_)
      exact jn30 14 v51 v52 v53 v54 v55 v56 v57 v58 v59 v60 v61 v62 f63 f64 f65 f66 f67 f68 f69 f70 f71 f72 f73 f74 (-1) 0 0 H locs ls (ib_w 0 1 h48 (by decide)) (ib_w 1 1 h40 (by decide)) (ib_w 0 1 h75 (by decide)) (ib_w 0 1 h76 (by decide)) (ib_w 0 60 h77 (by decide)) (ib_w (-1) 20 h78 (by decide)) (ib_w 0 1700 h79 (by decide)) (ib_w 10 120 h41 (by decide)) (ib_w (-1) 2147483647 (ib_c (-1) (-1) (-1) (by decide)) (by decide)) (ib_w 0 2147483647 (ib_c 0 0 0 (by decide)) (by decide)) (ib_w 0 12 (ib_c 0 0 0 (by decide)) (by decide)) h80 (by have := (ib_c 0 0 0 (by decide)); unfold ib at this; omega) hP hD hS (lv_sub hl [3, 4, 2, 1, 0] rfl)
    · have h81 := ib_eq h45 (ib_c 0 0 0 (by decide)) c46
      have h82 : ib r42 0 0 := ib_w 0 0 h81.1 (by decide)
      exact jn17  H locs ls  hP hD hS (lv_sub hl [0, 1] rfl)
