theorem lb_all : (List.range 21).all (fun i => (List.range (k_len.getD i 0)).all (fun j => decide ((((k_byt.getD i []).getD j 0 &&& 255).toUInt32 % 65536).toInt32 = (k_byt.getD i []).getD j 0))) = true := by decide +kernel
theorem lb_ch {i j : Nat} (hi : i < 21) (hj : j < k_len.getD i 0) : (((k_byt.getD i []).getD j 0 &&& 255).toUInt32 % 65536).toInt32 = (k_byt.getD i []).getD j 0 := of_decide_eq_true (List.all_eq_true.mp (List.all_eq_true.mp lb_all i (List.mem_range.mpr hi)) j (List.mem_range.mpr hj))
theorem lb_nc {i j : Nat} (hi : i < 21) (hj : j < k_len.getD i 0) : narrow .char (.int ((k_byt.getD i []).getD j 0)) = .int ((k_byt.getD i []).getD j 0) := by
  have h := pk_nc ((k_byt.getD i []).getD j 0 &&& 255)
  rw [lb_ch hi hj] at h
  exact h
set_option maxHeartbeats 4000000 in
set_option maxRecDepth 100000 in
theorem cx_charAt1 (l : Launch) (dC : Nat → ClassId) (dI : Nat → Nat → Nat) (cy : Nat → ClassId) (sq : Nat → Nat) (i : Nat) (hi : i < 21) (k : Int32) (h0 : ¬ k < 0) (h1 : k < nI (k_len.getD i 0)) (h2 : vp_in k (k_len.getD i 0)) : k_Met l yJ1_charAt_3b067 cJ1_charAt_3b067 2 (some .char) { frames := 2, cells := 0, slots := 0, locals := 80 } dC dI cy sq [.ref (sq (100 + i)), .int k] [] (k_Qi dC dI (fun (r : Int32) (_ : Unit) => r = (k_byt.getD i []).getD (Int32.toNatClampNeg k) 0) (fun _ => [])) := by
  refine k_ofWF (by decide +kernel) (Nat.le_of_ble_eq_true rfl) ?_
  intro p e s m below meth c A ls H locs C0 hZ hr hlk hin hP hD hA hS hl
  have C0 : k_cx p s m _ c cJ1_charAt_3b067 2 RJ1 dC dI cy sq := C0
  have hx := C0.1
  have hb := C0.2.1
  have hl : lv_has ls 2 [(0, .ref (sq (100 + i))), (1, .int k)] := hl
  refine lv_iload_n hx hb dJ1_charAt_3b067_0 rfl (lv_at hl 1 rfl) ?_
  refine lv_aload_n hx hb dJ1_charAt_3b067_1 rfl (lv_at hl 0 rfl) ?_
  refine va_tlen hx hb (hZ.1.1 i hi).2.2.2 hS (k_lenN i hi).1 dJ1_charAt_3b067_2 ?_
  refine k_jv hP hD hS hA [] [] (wr := []) rfl rfl (by decide) (by decide) (by decide) 0 0 (Nat.le_of_ble_eq_true rfl) (Nat.le_of_ble_eq_true rfl) (fun hPc hDc => k_runS (As := [.int k, .int (nI (k_len.getD i 0))]) (rest := []) C0 hZ hS hA (c_ck0 l dC dI cy sq k _ h0 h1) mS_J1_9 hPc hDc hl rfl rfl (Nat.le_of_ble_eq_true rfl) ⟨(Nat.le_of_ble_eq_true rfl), (Nat.le_of_ble_eq_true rfl)⟩ ⟨(Nat.le_of_ble_eq_true rfl), (Nat.le_of_ble_eq_true rfl)⟩ dJ1_charAt_3b067_3) (fun u H locs hw hP hD hS => ?_)
  refine lv_aload_n hx hb dJ1_charAt_3b067_6 rfl (lv_at hl 0 rfl) ?_
  refine lv_iload_n hx hb dJ1_charAt_3b067_7 rfl (lv_at hl 1 rfl) ?_
  refine va_tb hx hb (hZ.1.1 i hi).2.2.2 hS h2 rfl dJ1_charAt_3b067_8 ?_
  refine lv_sipush (v := 255) hx hb dJ1_charAt_3b067_9 (by decide) ?_
  refine lv_iand hx hb dJ1_charAt_3b067_12 ?_
  refine lv_i2c hx hb dJ1_charAt_3b067_13 (lb_ch hi (Nat.not_le.mp fun q => h2 (Or.inr q))) ?_
  exact k_iret hx hb hr hlk (lb_nc hi (Nat.not_le.mp fun q => h2 (Or.inr q))) () hS rfl hP hD (Nat.le_of_ble_eq_true rfl) (Nat.le_of_ble_eq_true rfl) dJ1_charAt_3b067_14
set_option maxHeartbeats 4000000 in
set_option maxRecDepth 100000 in
theorem cx_charAt (l : Launch) (dC : Nat → ClassId) (dI : Nat → Nat → Nat) (cy : Nat → ClassId) (sq : Nat → Nat) (i : Nat) (hi : i < 21) (k : Int32) (h0 : ¬ k < 0) (h1 : k < nI (k_len.getD i 0)) (h2 : vp_in k (k_len.getD i 0)) : k_Met l yJ0_charAt_5068e cJ0_charAt_5068e 2 (some .char) { frames := 3, cells := 0, slots := 0, locals := 120 } dC dI cy sq [.ref (sq i), .int k] [] (k_Qi dC dI (fun (r : Int32) (_ : Unit) => r = (k_byt.getD i []).getD (Int32.toNatClampNeg k) 0) (fun _ => [])) := by
  refine k_ofWF (by decide +kernel) (Nat.le_of_ble_eq_true rfl) ?_
  intro p e s m below meth c A ls H locs C0 hZ hr hlk hin hP hD hA hS hl
  have C0 : k_cx p s m _ c cJ0_charAt_5068e 2 RJ0 dC dI cy sq := C0
  have hx := C0.1
  have hb := C0.2.1
  have hl : lv_has ls 2 [(0, .ref (sq i)), (1, .int k)] := hl
  refine lv_aload_n hx hb dJ0_charAt_5068e_0 rfl (lv_at hl 0 rfl) ?_
  refine k_ji hP hD hS hA [] [] (wr := []) rfl rfl (by decide) (by decide) (by decide) 0 0 (Nat.le_of_ble_eq_true rfl) (Nat.le_of_ble_eq_true rfl) (fun hPc hDc => k_runVO (As := []) (rest := []) C0 hZ hS hA (c_isLatin1 l dC dI cy sq i hi) mV_J0_492 hPc hDc (vk_recv hZ.1 hi hS) hl rfl rfl (Nat.le_of_ble_eq_true rfl) ⟨(Nat.le_of_ble_eq_true rfl), (Nat.le_of_ble_eq_true rfl)⟩ ⟨(Nat.le_of_ble_eq_true rfl), (Nat.le_of_ble_eq_true rfl)⟩ dJ0_charAt_5068e_1) (fun r u H locs hw hP hD hS => ?_)
  subst hw
  refine lv_if_eq (tgt := 16) hx hb dJ0_charAt_5068e_4 (by decide) (fun h9 => absurd h9 (by decide)) (fun _ => ?_)
  refine lv_aload_n hx hb dJ0_charAt_5068e_7 rfl (lv_at hl 0 rfl) ?_
  refine vk_getf hx hb (hZ.1.1 i hi).2.2.1 hS C0.2.2.2.1 (C0.2.2.2.2.1 _ wd348) (fun _ h => h) dJ0_charAt_5068e_8 ?_
  refine lv_iload_n hx hb dJ0_charAt_5068e_11 rfl (lv_at hl 1 rfl) ?_
  refine k_ji hP hD hS hA [] [] (wr := []) rfl rfl (by decide) (by decide) (by decide) 0 0 (Nat.le_of_ble_eq_true rfl) (Nat.le_of_ble_eq_true rfl) (fun hPc hDc => k_runS (As := [.ref (sq (100 + i)), .int k]) (rest := []) C0 hZ hS hA (cx_charAt1 l dC dI cy sq i hi k h0 h1 h2) mS_J0_495 hPc hDc hl rfl rfl (Nat.le_of_ble_eq_true rfl) ⟨(Nat.le_of_ble_eq_true rfl), (Nat.le_of_ble_eq_true rfl)⟩ ⟨(Nat.le_of_ble_eq_true rfl), (Nat.le_of_ble_eq_true rfl)⟩ dJ0_charAt_5068e_12) (fun r2 u2 H locs hw2 hP hD hS => ?_)
  exact k_iret hx hb hr hlk (by rw [hw2]; exact lb_nc hi (Nat.not_le.mp fun q => h2 (Or.inr q))) () hS hw2 hP hD (Nat.le_of_ble_eq_true rfl) (Nat.le_of_ble_eq_true rfl) dJ0_charAt_5068e_15
