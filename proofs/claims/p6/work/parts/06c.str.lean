set_option maxHeartbeats 4000000 in
set_option maxRecDepth 100000 in
theorem c_coder (l : Launch) (dC : Nat → ClassId) (dI : Nat → Nat → Nat) (cy : Nat → ClassId) (sq : Nat → Nat) (i : Nat) (hi : i < 21) : k_Met l yJ0_coder_7d493 cJ0_coder_7d493 1 (some .byte) { frames := 0, cells := 0, slots := 0, locals := 0 } dC dI cy sq [.ref (sq i)] [] (k_Qi dC dI (fun (r : Int32) (_ : Unit) => r = 0) (fun _ => [])) := by
  refine k_ofWF (by decide +kernel) (Nat.le_of_ble_eq_true rfl) ?_
  intro p e s m below meth c A ls H locs C0 hZ hr hlk hin hP hD hA hS hl
  have C0 : k_cx p s m _ c cJ0_coder_7d493 1 RJ0 dC dI cy sq := C0
  have hx := C0.1
  have hb := C0.2.1
  have hl : lv_has ls 1 [(0, .ref (sq i))] := hl
  refine va_gets hx hb hZ.2.1 hS C0.2.2.2.1 (C0.2.2.2.2.1 _ wd353) (fun _ h => h) dJ0_coder_7d493_0 ?_
  refine lv_if_eq (tgt := 13) hx hb dJ0_coder_7d493_3 (by decide) (fun h9 => absurd h9 (by decide)) (fun _ => ?_)
  refine lv_aload_n hx hb dJ0_coder_7d493_6 rfl (lv_at hl 0 rfl) ?_
  refine vk_getf hx hb (hZ.1.1 i hi).2.1 hS C0.2.2.2.1 (C0.2.2.2.2.1 _ wd354) (fun _ h => h) dJ0_coder_7d493_7 ?_
  refine lv_goto (tgt := 14) hx hb dJ0_coder_7d493_10 (by decide) ?_
  exact k_iret hx hb hr hlk rfl () hS rfl hP hD (Nat.le_of_ble_eq_true rfl) (Nat.le_of_ble_eq_true rfl) dJ0_coder_7d493_14
set_option maxHeartbeats 4000000 in
set_option maxRecDepth 100000 in
theorem c_isLatin1 (l : Launch) (dC : Nat → ClassId) (dI : Nat → Nat → Nat) (cy : Nat → ClassId) (sq : Nat → Nat) (i : Nat) (hi : i < 21) : k_Met l yJ0_isLatin1_aae02 cJ0_isLatin1_aae02 1 (some .boolean) { frames := 0, cells := 0, slots := 0, locals := 0 } dC dI cy sq [.ref (sq i)] [] (k_Qi dC dI (fun (r : Int32) (_ : Unit) => r = 1) (fun _ => [])) := by
  refine k_ofWF (by decide +kernel) (Nat.le_of_ble_eq_true rfl) ?_
  intro p e s m below meth c A ls H locs C0 hZ hr hlk hin hP hD hA hS hl
  have C0 : k_cx p s m _ c cJ0_isLatin1_aae02 1 RJ0 dC dI cy sq := C0
  have hx := C0.1
  have hb := C0.2.1
  have hl : lv_has ls 1 [(0, .ref (sq i))] := hl
  refine va_gets hx hb hZ.2.1 hS C0.2.2.2.1 (C0.2.2.2.2.1 _ wd353) (fun _ h => h) dJ0_isLatin1_aae02_0 ?_
  refine lv_if_eq (tgt := 17) hx hb dJ0_isLatin1_aae02_3 (by decide) (fun h9 => absurd h9 (by decide)) (fun _ => ?_)
  refine lv_aload_n hx hb dJ0_isLatin1_aae02_6 rfl (lv_at hl 0 rfl) ?_
  refine vk_getf hx hb (hZ.1.1 i hi).2.1 hS C0.2.2.2.1 (C0.2.2.2.2.1 _ wd354) (fun _ h => h) dJ0_isLatin1_aae02_7 ?_
  refine lv_if_ne (tgt := 17) hx hb dJ0_isLatin1_aae02_10 (by decide) (fun h9 => absurd rfl h9) (fun _ => ?_)
  refine lv_iconst (v := 1) hx hb dJ0_isLatin1_aae02_13 (by decide) ?_
  refine lv_goto (tgt := 18) hx hb dJ0_isLatin1_aae02_14 (by decide) ?_
  exact k_iret hx hb hr hlk (k_nb 1 (by decide)) () hS rfl hP hD (Nat.le_of_ble_eq_true rfl) (Nat.le_of_ble_eq_true rfl) dJ0_isLatin1_aae02_18
theorem k_shr0 : ∀ i, i < 21 → Int32.ofNat (k_len.getD i 0) >>> ((0 : Int32) &&& 31) = nI (k_len.getD i 0) := by decide
set_option maxHeartbeats 4000000 in
set_option maxRecDepth 100000 in
theorem c_length (l : Launch) (dC : Nat → ClassId) (dI : Nat → Nat → Nat) (cy : Nat → ClassId) (sq : Nat → Nat) (i : Nat) (hi : i < 21) : k_Met l yJ0_length_8abf5 cJ0_length_8abf5 1 (some .int) { frames := 1, cells := 0, slots := 0, locals := 40 } dC dI cy sq [.ref (sq i)] [] (k_Qi dC dI (fun (r : Int32) (_ : Unit) => r = nI (k_len.getD i 0)) (fun _ => [])) := by
  refine k_ofWF (by decide +kernel) (Nat.le_of_ble_eq_true rfl) ?_
  intro p e s m below meth c A ls H locs C0 hZ hr hlk hin hP hD hA hS hl
  have C0 : k_cx p s m _ c cJ0_length_8abf5 1 RJ0 dC dI cy sq := C0
  have hx := C0.1
  have hb := C0.2.1
  have hl : lv_has ls 1 [(0, .ref (sq i))] := hl
  refine lv_aload_n hx hb dJ0_length_8abf5_0 rfl (lv_at hl 0 rfl) ?_
  refine vk_getf hx hb (hZ.1.1 i hi).2.2.1 hS C0.2.2.2.1 (C0.2.2.2.2.1 _ wd348) (fun _ h => h) dJ0_length_8abf5_1 ?_
  refine va_tlen hx hb (hZ.1.1 i hi).2.2.2 hS rfl dJ0_length_8abf5_4 ?_
  refine lv_aload_n hx hb dJ0_length_8abf5_5 rfl (lv_at hl 0 rfl) ?_
  refine k_ji hP hD hS hA [] [] (wr := []) rfl rfl (by decide) (by decide) (by decide) 0 0 (Nat.le_of_ble_eq_true rfl) (Nat.le_of_ble_eq_true rfl) (fun hPc hDc => k_runVO (As := []) (rest := [.int (Int32.ofNat (k_len.getD i 0))]) C0 hZ hS hA (c_coder l dC dI cy sq i hi) mV_J0_335 hPc hDc (vk_recv hZ.1 hi hS) hl rfl rfl (Nat.le_of_ble_eq_true rfl) ⟨(Nat.le_of_ble_eq_true rfl), (Nat.le_of_ble_eq_true rfl)⟩ ⟨(Nat.le_of_ble_eq_true rfl), (Nat.le_of_ble_eq_true rfl)⟩ dJ0_length_8abf5_6) (fun r u H locs hw hP hD hS => ?_)
  subst hw
  refine lv_ishr hx hb dJ0_length_8abf5_9 ?_
  exact k_iret hx hb hr hlk rfl () hS (k_shr0 i hi) hP hD (Nat.le_of_ble_eq_true rfl) (Nat.le_of_ble_eq_true rfl) dJ0_length_8abf5_10
set_option maxHeartbeats 4000000 in
set_option maxRecDepth 100000 in
theorem c_ck3n (l : Launch) (dC : Nat → ClassId) (dI : Nat → Nat → Nat) (cy : Nat → ClassId) (sq : Nat → Nat) (x n : Int32) (h0 : ¬ x < 0) (h1 : x < n) : k_Met l yJ3_checkIndex_8e157 cJ3_checkIndex_8e157 3 (some .int) { frames := 0, cells := 0, slots := 0, locals := 0 } dC dI cy sq [.int x, .int n, .null] [] (k_Qi dC dI (fun (_ : Int32) (_ : Unit) => True) (fun _ => [])) := by
  refine k_ofWF (by decide +kernel) (Nat.le_of_ble_eq_true rfl) ?_
  intro p e s m below meth c A ls H locs C0 hZ hr hlk hin hP hD hA hS hl
  have C0 : k_cx p s m _ c cJ3_checkIndex_8e157 3 RJ3 dC dI cy sq := C0
  have hx := C0.1
  have hb := C0.2.1
  have hl : lv_has ls 3 [(0, .int x), (1, .int n), (2, .null)] := hl
  refine lv_iload_n hx hb dJ3_checkIndex_8e157_0 rfl (lv_at hl 0 rfl) ?_
  refine lv_if_lt (tgt := 9) hx hb dJ3_checkIndex_8e157_1 (by decide) (fun h9 => absurd h9 h0) (fun _ => ?_)
  refine lv_iload_n hx hb dJ3_checkIndex_8e157_4 rfl (lv_at hl 0 rfl) ?_
  refine lv_iload_n hx hb dJ3_checkIndex_8e157_5 rfl (lv_at hl 1 rfl) ?_
  refine lv_icmp_lt (tgt := 16) hx hb dJ3_checkIndex_8e157_6 (by decide) (fun _ => ?_) (fun h9 => absurd h1 h9)
  refine lv_iload_n hx hb dJ3_checkIndex_8e157_16 rfl (lv_at hl 0 rfl) ?_
  exact k_iret hx hb hr hlk rfl () hS True.intro hP hD (Nat.le_of_ble_eq_true rfl) (Nat.le_of_ble_eq_true rfl) dJ3_checkIndex_8e157_17
set_option maxHeartbeats 4000000 in
set_option maxRecDepth 100000 in
theorem c_ck3r (l : Launch) (dC : Nat → ClassId) (dI : Nat → Nat → Nat) (cy : Nat → ClassId) (sq : Nat → Nat) (x n : Int32) (t : Nat) (h0 : ¬ x < 0) (h1 : x < n) : k_Met l yJ3_checkIndex_8e157 cJ3_checkIndex_8e157 3 (some .int) { frames := 0, cells := 0, slots := 0, locals := 0 } dC dI cy sq [.int x, .int n, .ref t] [] (k_Qi dC dI (fun (_ : Int32) (_ : Unit) => True) (fun _ => [])) := by
  refine k_ofWF (by decide +kernel) (Nat.le_of_ble_eq_true rfl) ?_
  intro p e s m below meth c A ls H locs C0 hZ hr hlk hin hP hD hA hS hl
  have C0 : k_cx p s m _ c cJ3_checkIndex_8e157 3 RJ3 dC dI cy sq := C0
  have hx := C0.1
  have hb := C0.2.1
  have hl : lv_has ls 3 [(0, .int x), (1, .int n), (2, .ref t)] := hl
  refine lv_iload_n hx hb dJ3_checkIndex_8e157_0 rfl (lv_at hl 0 rfl) ?_
  refine lv_if_lt (tgt := 9) hx hb dJ3_checkIndex_8e157_1 (by decide) (fun h9 => absurd h9 h0) (fun _ => ?_)
  refine lv_iload_n hx hb dJ3_checkIndex_8e157_4 rfl (lv_at hl 0 rfl) ?_
  refine lv_iload_n hx hb dJ3_checkIndex_8e157_5 rfl (lv_at hl 1 rfl) ?_
  refine lv_icmp_lt (tgt := 16) hx hb dJ3_checkIndex_8e157_6 (by decide) (fun _ => ?_) (fun h9 => absurd h1 h9)
  refine lv_iload_n hx hb dJ3_checkIndex_8e157_16 rfl (lv_at hl 0 rfl) ?_
  exact k_iret hx hb hr hlk rfl () hS True.intro hP hD (Nat.le_of_ble_eq_true rfl) (Nat.le_of_ble_eq_true rfl) dJ3_checkIndex_8e157_17
set_option maxHeartbeats 4000000 in
set_option maxRecDepth 100000 in
theorem c_ck0 (l : Launch) (dC : Nat → ClassId) (dI : Nat → Nat → Nat) (cy : Nat → ClassId) (sq : Nat → Nat) (x n : Int32) (h0 : ¬ x < 0) (h1 : x < n) : k_Met l yJ0_checkIndex_df160 cJ0_checkIndex_df160 2 none { frames := 1, cells := 0, slots := 0, locals := 40 } dC dI cy sq [.int x, .int n] [] (k_Qv dC dI (fun _ : Unit => True) (fun _ => [])) := by
  refine k_ofWF (by decide +kernel) (Nat.le_of_ble_eq_true rfl) ?_
  intro p e s m below meth c A ls H locs C0 hZ hr hlk hin hP hD hA hS hl
  have C0 : k_cx p s m _ c cJ0_checkIndex_df160 2 RJ0 dC dI cy sq := C0
  have hx := C0.1
  have hb := C0.2.1
  have hl : lv_has ls 2 [(0, .int x), (1, .int n)] := hl
  refine lv_iload_n hx hb dJ0_checkIndex_df160_0 rfl (lv_at hl 0 rfl) ?_
  refine lv_iload_n hx hb dJ0_checkIndex_df160_1 rfl (lv_at hl 1 rfl) ?_
  rcases hZ.2.2 with hq | ⟨t, hq⟩
  · refine va_gets hx hb hq hS C0.2.2.2.1 (C0.2.2.2.2.1 _ wd370) (fun _ h => h) dJ0_checkIndex_df160_2 ?_
    refine k_ji hP hD hS hA [] [] (wr := []) rfl rfl (by decide) (by decide) (by decide) 0 0 (Nat.le_of_ble_eq_true rfl) (Nat.le_of_ble_eq_true rfl) (fun hPc hDc => k_runS (As := [.int x, .int n, .null]) (rest := []) C0 hZ hS hA (c_ck3n l dC dI cy sq x n h0 h1) mS_J0_1059 hPc hDc hl rfl rfl (Nat.le_of_ble_eq_true rfl) ⟨(Nat.le_of_ble_eq_true rfl), (Nat.le_of_ble_eq_true rfl)⟩ ⟨(Nat.le_of_ble_eq_true rfl), (Nat.le_of_ble_eq_true rfl)⟩ dJ0_checkIndex_df160_5) (fun r u H locs hw hP hD hS => ?_)
    refine lv_pop hx hb dJ0_checkIndex_df160_8 rfl ?_
    exact k_vret hx hb hr hlk () hS True.intro hP hD (Nat.le_of_ble_eq_true rfl) (Nat.le_of_ble_eq_true rfl) dJ0_checkIndex_df160_9
  · refine va_gets hx hb hq hS C0.2.2.2.1 (C0.2.2.2.2.1 _ wd370) (fun _ h => h) dJ0_checkIndex_df160_2 ?_
    refine k_ji hP hD hS hA [] [] (wr := []) rfl rfl (by decide) (by decide) (by decide) 0 0 (Nat.le_of_ble_eq_true rfl) (Nat.le_of_ble_eq_true rfl) (fun hPc hDc => k_runS (As := [.int x, .int n, .ref t]) (rest := []) C0 hZ hS hA (c_ck3r l dC dI cy sq x n t h0 h1) mS_J0_1059 hPc hDc hl rfl rfl (Nat.le_of_ble_eq_true rfl) ⟨(Nat.le_of_ble_eq_true rfl), (Nat.le_of_ble_eq_true rfl)⟩ ⟨(Nat.le_of_ble_eq_true rfl), (Nat.le_of_ble_eq_true rfl)⟩ dJ0_checkIndex_df160_5) (fun r u H locs hw hP hD hS => ?_)
    refine lv_pop hx hb dJ0_checkIndex_df160_8 rfl ?_
    exact k_vret hx hb hr hlk () hS True.intro hP hD (Nat.le_of_ble_eq_true rfl) (Nat.le_of_ble_eq_true rfl) dJ0_checkIndex_df160_9
theorem k_lenN : ∀ i, i < 21 → Int32.ofNat (k_len.getD i 0) = nI (k_len.getD i 0) ∧ k_len.getD i 0 < 2 ^ 31 := by decide
set_option maxHeartbeats 4000000 in
set_option maxRecDepth 100000 in
theorem c_charAt1 (l : Launch) (dC : Nat → ClassId) (dI : Nat → Nat → Nat) (cy : Nat → ClassId) (sq : Nat → Nat) (i : Nat) (hi : i < 21) (k : Int32) (h0 : ¬ k < 0) (h1 : k < nI (k_len.getD i 0)) (h2 : vp_in k (k_len.getD i 0)) : k_Met l yJ1_charAt_3b067 cJ1_charAt_3b067 2 (some .char) { frames := 2, cells := 0, slots := 0, locals := 80 } dC dI cy sq [.ref (sq (100 + i)), .int k] [] (k_Qi dC dI (fun (r : Int32) (_ : Unit) => narrow .char (.int r) = .int r) (fun _ => [])) := by
  refine k_ofWF (by decide +kernel) (Nat.le_of_ble_eq_true rfl) ?_
  intro p e s m below meth c A ls H locs C0 hZ hr hlk hin hP hD hA hS hl
  have C0 : k_cx p s m _ c cJ1_charAt_3b067 2 RJ1 dC dI cy sq := C0
  have hx := C0.1
  have hb := C0.2.1
  have hl : lv_has ls 2 [(0, .ref (sq (100 + i))), (1, .int k)] := hl
  refine lv_iload_n hx hb dJ1_charAt_3b067_0 rfl (lv_at hl 1 rfl) ?_
  refine lv_aload_n hx hb dJ1_charAt_3b067_1 rfl (lv_at hl 0 rfl) ?_
  refine va_tlen hx hb (hZ.1.1 i hi).2.2.2 hS (k_lenN i hi).1 dJ1_charAt_3b067_2 ?_
  refine k_jv hP hD hS hA [] [] (wr := []) rfl rfl (by decide) (by decide) (by decide) 0 0 (Nat.le_of_ble_eq_true rfl) (Nat.le_of_ble_eq_true rfl) (fun hPc hDc => k_runS (As := [.int k, .int (nI (k_len.getD i 0))]) (rest := []) C0 hZ hS hA (c_ck0 l dC dI cy sq k _ h0 h1) mS_J1_9 hPc hDc hl rfl rfl (Nat.le_of_ble_eq_true rfl) ⟨(Nat.le_of_ble_eq_true rfl), (Nat.le_of_ble_eq_true rfl)⟩ ⟨(Nat.le_of_ble_eq_true rfl), (Nat.le_of_ble_eq_true rfl)⟩ dJ1_charAt_3b067_3) (fun u H locs hw hP hD hS => ?_)
  refine lv_aload_n hx hb dJ1_charAt_3b067_6 rfl (lv_at hl 0 rfl) ?_
  refine lv_iload_n hx hb dJ1_charAt_3b067_7 rfl (lv_at hl 1 rfl) ?_
  refine va_tb hx hb (hZ.1.1 i hi).2.2.2 hS h2 rfl dJ1_charAt_3b067_8 ?_
  refine lv_sipush (v := 255) hx hb dJ1_charAt_3b067_9 (by decide) ?_
  refine lv_iand hx hb dJ1_charAt_3b067_12 ?_
  refine lv_i2c hx hb dJ1_charAt_3b067_13 rfl ?_
  exact k_iret hx hb hr hlk (pk_nc _) () hS (pk_nc _) hP hD (Nat.le_of_ble_eq_true rfl) (Nat.le_of_ble_eq_true rfl) dJ1_charAt_3b067_14
set_option maxHeartbeats 4000000 in
set_option maxRecDepth 100000 in
theorem c_charAt (l : Launch) (dC : Nat → ClassId) (dI : Nat → Nat → Nat) (cy : Nat → ClassId) (sq : Nat → Nat) (i : Nat) (hi : i < 21) (k : Int32) (h0 : ¬ k < 0) (h1 : k < nI (k_len.getD i 0)) (h2 : vp_in k (k_len.getD i 0)) : k_Met l yJ0_charAt_5068e cJ0_charAt_5068e 2 (some .char) { frames := 3, cells := 0, slots := 0, locals := 120 } dC dI cy sq [.ref (sq i), .int k] [] (k_Qi dC dI (fun (_ : Int32) (_ : Unit) => True) (fun _ => [])) := by
  refine k_ofWF (by decide +kernel) (Nat.le_of_ble_eq_true rfl) ?_
  intro p e s m below meth c A ls H locs C0 hZ hr hlk hin hP hD hA hS hl
  have C0 : k_cx p s m _ c cJ0_charAt_5068e 2 RJ0 dC dI cy sq := C0
  have hx := C0.1
  have hb := C0.2.1
  have hl : lv_has ls 2 [(0, .ref (sq i)), (1, .int k)] := hl
  refine lv_aload_n hx hb dJ0_charAt_5068e_0 rfl (lv_at hl 0 rfl) ?_
  refine k_ji hP hD hS hA [] [] (wr := []) rfl rfl (by decide) (by decide) (by decide) 0 0 (Nat.le_of_ble_eq_true rfl) (Nat.le_of_ble_eq_true rfl) (fun hPc hDc => k_runVO (As := []) (rest := []) C0 hZ hS hA (c_isLatin1 l dC dI cy sq i hi) mV_J0_492 hPc hDc (vk_recv hZ.1 hi hS) hl rfl rfl (Nat.le_of_ble_eq_true rfl) ⟨(Nat.le_of_ble_eq_true rfl), (Nat.le_of_ble_eq_true rfl)⟩ ⟨(Nat.le_of_ble_eq_true rfl), (Nat.le_of_ble_eq_true rfl)⟩ dJ0_charAt_5068e_1) (fun r u H locs hw hP hD hS => ?_)
  subst hw
  refine lv_if_eq (tgt := 16) hx hb dJ0_charAt_5068e_4 (by decide) (fun h9 => absurd h9 (by decide)) (fun _ => ?_)
  refine lv_aload_n hx hb dJ0_charAt_5068e_7 rfl (lv_at hl 0 rfl) ?_
  refine vk_getf hx hb (hZ.1.1 i hi).2.2.1 hS C0.2.2.2.1 (C0.2.2.2.2.1 _ wd348) (fun _ h => h) dJ0_charAt_5068e_8 ?_
  refine lv_iload_n hx hb dJ0_charAt_5068e_11 rfl (lv_at hl 1 rfl) ?_
  refine k_ji hP hD hS hA [] [] (wr := []) rfl rfl (by decide) (by decide) (by decide) 0 0 (Nat.le_of_ble_eq_true rfl) (Nat.le_of_ble_eq_true rfl) (fun hPc hDc => k_runS (As := [.ref (sq (100 + i)), .int k]) (rest := []) C0 hZ hS hA (c_charAt1 l dC dI cy sq i hi k h0 h1 h2) mS_J0_495 hPc hDc hl rfl rfl (Nat.le_of_ble_eq_true rfl) ⟨(Nat.le_of_ble_eq_true rfl), (Nat.le_of_ble_eq_true rfl)⟩ ⟨(Nat.le_of_ble_eq_true rfl), (Nat.le_of_ble_eq_true rfl)⟩ dJ0_charAt_5068e_12) (fun r2 u2 H locs hw2 hP hD hS => ?_)
  exact k_iret hx hb hr hlk hw2 () hS True.intro hP hD (Nat.le_of_ble_eq_true rfl) (Nat.le_of_ble_eq_true rfl) dJ0_charAt_5068e_15
/-- a place in a text -/
theorem ib_ch {k : Int32} {a b : Int} (i n : Nat) (h : ib k a b) (hn : k_len.getD i 0 = n) (h1 : (decide (0 ≤ a) && decide (b < (n : Int)) && decide (n < 2147483648)) = true) : ¬ k < 0 ∧ k < nI (k_len.getD i 0) ∧ vp_in k (k_len.getD i 0) := by
  simp only [Bool.and_eq_true, decide_eq_true_eq] at h1
  rw [hn]
  have h2 := h.1
  have h3 := h.2
  have e0 : (0 : Int32).toInt = 0 := by decide
  refine ⟨?_, ?_, ?_⟩
  · rw [Int32.lt_iff_toInt_lt]; omega
  · rw [Int32.lt_iff_toInt_lt, nI_toInt (by omega)]; omega
  · rw [vp_in_iff]; exact ⟨by omega, by omega⟩
